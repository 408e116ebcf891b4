/** Every promise by hand: ordinary calls, the edges that the document names, and wrong ones. */
public final class PromisesTest {
    private static final int BEYOND = -1000000001;
    private static final int FULL = -1000000002;
    private static final int KIND = -1000000003;
    private static final int NONE = -1000000004;
    private static final int STATE = -1000000005;
    private static final int MISSING = -1000000006;
    private static final int SIZE = -1000000007;
    private static final int THING = 0;
    private static final int BOAT = 1;
    private static final int JERSEY = 2;
    private static final int QUARREL = 3;
    private static final int BRIDGE = 4;
    private static final int LETTER = 5;
    private static final int LOWEST = Integer.MIN_VALUE;
    private static final int HIGHEST = Integer.MAX_VALUE;

    private static int promise = 0;
    private static int checks = 0;
    private static int wrong = 0;

    private static void due(String call, long got, long want) {
        checks++;
        if (got != want) {
            wrong++;
            System.out.println("promise " + promise + ": " + call + " answered " + got + ", due is " + want);
        }
    }

    private static UnfinishedFair withSkills(int... skills) {
        UnfinishedFair x = new UnfinishedFair();
        for (int p = 0; p < skills.length; p++) {
            x.person(p, 0, skills[p]);
        }
        return x;
    }

    private static void put(UnfinishedFair x, int kind, int done, int with, int dust) {
        int thing = x.thing(kind, done);
        x.set(thing, 2, with);
        x.set(thing, 3, dust);
    }

    private static void feedText(UnfinishedFair x, String text) {
        for (int i = 0; i < text.length(); i++) {
            x.feed(text.charAt(i), 1);
        }
    }

    private static int tell(UnfinishedFair x, String text) {
        feedText(x, text);
        return x.common();
    }

    private static void newObject() {
        promise = 1;
        UnfinishedFair x = new UnfinishedFair();
        due("count(0)", x.count(0), 0);
        due("count(1)", x.count(1), 0);
        due("now(0)", x.now(0), 0);
        for (int p = 0; p < 6; p++) {
            due("skill", x.personOf(p, 0), 5);
            due("zeal", x.personOf(p, 1), 4);
            due("made", x.personOf(p, 2), 0);
            due("with", x.personOf(p, 3), 0);
        }
        due("of(0, 0)", x.of(0, 0), BEYOND);
        due("tear()", x.tear(), 0);
        due("undo()", x.undo(), NONE);
        for (int s = 0; s < 4; s++) {
            due("lays", x.lays(s), MISSING);
        }
        due("status(-1)", x.status(-1), 6);
    }

    private static void person() {
        promise = 2;
        UnfinishedFair x = new UnfinishedFair();
        due("skill 20", x.person(5, 0, 20), 5);
        due("skill 0", x.person(5, 0, 0), 20);
        due("zeal 9", x.person(5, 1, 9), 4);
        due("zeal 0", x.person(5, 1, 0), 9);
        due("made 999", x.person(5, 2, 999), 0);
        due("made 0", x.person(5, 2, 0), 999);
        due("made 7", x.person(0, 2, 7), 0);
        int[][] bad = {{-1, 0, 0}, {6, 0, 0}, {0, -1, 0}, {0, 3, 0}, {0, 0, -1}, {0, 0, 21}, {0, 1, -1},
            {0, 1, 10}, {0, 2, -1}, {0, 2, 1000}, {LOWEST, 0, 0}, {HIGHEST, 0, 0}, {0, 0, HIGHEST}};
        for (int[] b : bad) {
            due("wrong", x.person(b[0], b[1], b[2]), BEYOND);
        }
        due("skill stays", x.personOf(0, 0), 5);
        due("zeal stays", x.personOf(0, 1), 4);
        due("made stays", x.personOf(0, 2), 7);
        due("status(0)", x.status(0), bad.length);
    }

    private static void personOf() {
        promise = 3;
        UnfinishedFair x = new UnfinishedFair();
        put(x, THING, 0, 3, 0);
        put(x, THING, 0, -1, 0);
        put(x, THING, 0, 3, 0);
        put(x, THING, 0, 2, 0);
        x.set(2, 1, 100);
        x.person(3, 0, 11);
        x.person(3, 1, 8);
        x.person(3, 2, 77);
        due("skill", x.personOf(3, 0), 11);
        due("zeal", x.personOf(3, 1), 8);
        due("made", x.personOf(3, 2), 77);
        due("set", x.personOf(3, 3), 5);
        due("unfinished", x.personOf(3, 4), 1);
        due("set of 2", x.personOf(2, 3), 8);
        due("set of 0", x.personOf(0, 3), 0);
        due("what -1", x.personOf(0, -1), BEYOND);
        due("what 5", x.personOf(0, 5), BEYOND);
        due("person -1", x.personOf(-1, 0), BEYOND);
        due("person 6", x.personOf(6, 0), BEYOND);
    }

    private static void thing() {
        promise = 4;
        UnfinishedFair x = new UnfinishedFair();
        for (int i = 0; i < 8; i++) {
            due("kind 6 before " + i, x.thing(6, 0), BEYOND);
            due("kind -1 before " + i, x.thing(-1, 0), BEYOND);
            due("done 100 before " + i, x.thing(0, 100), BEYOND);
            due("done -1 before " + i, x.thing(0, -1), BEYOND);
            due("new " + i, x.thing(i % 6, i * 99 / 7), i);
            due("kind", x.of(i, 0), i % 6);
            due("done", x.of(i, 1), i * 99 / 7);
            due("with", x.of(i, 2), -1);
            due("dust", x.of(i, 3), 0);
        }
        due("9th", x.thing(0, 0), FULL);
        due("9th of no kind", x.thing(6, 0), BEYOND);
        due("9th so far done", x.thing(0, 100), BEYOND);
        due("count", x.count(0), 8);
        due("status(1)", x.status(1), 1);
    }

    private static void of() {
        promise = 5;
        UnfinishedFair x = new UnfinishedFair();
        int[] tires = {1, 2, 1, 0, 2, 0};
        int[] askedAtFirst = {8, 8, 8, 1, 8, 8};
        int[] askedLater = {8, 5, 8, 1, 5, 13};
        int[] askedAtLast = {8, 1, 8, 1, 1, 17};
        for (int k = 0; k < 6; k++) {
            x.thing(k, 0);
            due("tires " + k, x.of(k, 4), tires[k]);
            due("asked " + k, x.of(k, 5), askedAtFirst[k]);
            x.set(k, 1, 59);
            x.set(k, 3, 3);
            due("asked later " + k, x.of(k, 5), askedLater[k]);
            x.set(k, 1, 99);
            x.set(k, 3, 999);
            due("asked at last " + k, x.of(k, 5), askedAtLast[k]);
            due("kind " + k, x.of(k, 0), k);
            due("done " + k, x.of(k, 1), 99);
            due("dust " + k, x.of(k, 3), 999);
            x.set(k, 2, k);
            due("with " + k, x.of(k, 2), k);
        }
        x.set(1, 3, 7);
        due("asked at dust 7", x.of(1, 5), 1);
        x.set(1, 3, 6);
        due("asked at dust 6", x.of(1, 5), 2);
        x.set(LETTER, 1, 9);
        due("letter asks at 9", x.of(LETTER, 5), 8);
        x.set(LETTER, 1, 10);
        due("letter asks at 10", x.of(LETTER, 5), 9);
        due("thing -1", x.of(-1, 0), BEYOND);
        due("thing 6", x.of(6, 0), BEYOND);
        due("what -1", x.of(0, -1), BEYOND);
        due("what 6", x.of(0, 6), BEYOND);
    }

    private static void by() {
        promise = 6;
        UnfinishedFair x = withSkills(7, 0, 20);
        int[] goesOnEarly = {7, 3, 10, 1, 5, 10};
        int[] goesOnLate = {7, 3, 7, 0, 5, 14};
        int[] bidEarly = {14, 7, 14, 13, 8, 14};
        int[] bidLate = {14, 7, 21, 13, 106, 21};
        for (int k = 0; k < 6; k++) {
            x.thing(k, 49);
            x.set(k, 3, 10);
            due("goes on early " + k, x.by(k, 0, 0), goesOnEarly[k]);
            due("bid early " + k, x.by(k, 0, 1), bidEarly[k]);
            x.set(k, 1, 99);
            x.set(k, 3, 999);
            due("goes on late " + k, x.by(k, 0, 0), goesOnLate[k]);
            due("bid late " + k, x.by(k, 0, 1), bidLate[k]);
        }
        x.set(JERSEY, 1, 50);
        due("jersey at 50", x.by(JERSEY, 0, 0), 7);
        x.set(JERSEY, 1, 70);
        due("jersey's bid at 70", x.by(JERSEY, 0, 1), 14);
        x.set(JERSEY, 1, 71);
        due("jersey's bid at 71", x.by(JERSEY, 0, 1), 21);
        x.set(LETTER, 1, 0);
        x.set(LETTER, 3, 11);
        due("letter at dust 11", x.by(LETTER, 1, 0), 6);
        x.set(QUARREL, 1, 98);
        due("quarrel at 98", x.by(QUARREL, 2, 0), 1);
        due("quarrel's bid", x.by(QUARREL, 2, 1), 0);
        x.set(QUARREL, 1, 100);
        due("quarrel at 100", x.by(QUARREL, 2, 0), 1);
        x.set(BRIDGE, 3, 19);
        due("bridge's bid at dust 19", x.by(BRIDGE, 1, 1), 1);
        due("thing 6", x.by(6, 0, 0), BEYOND);
        due("thing -1", x.by(-1, 0, 0), BEYOND);
        due("person 6", x.by(0, 6, 0), BEYOND);
        due("person -1", x.by(0, -1, 0), BEYOND);
        due("what 2", x.by(0, 0, 2), BEYOND);
        due("what -1", x.by(0, 0, -1), BEYOND);
    }

    private static void set() {
        promise = 7;
        UnfinishedFair x = new UnfinishedFair();
        x.thing(JERSEY, 12);
        due("done 100", x.set(0, 1, 100), 12);
        due("done 0", x.set(0, 1, 0), 100);
        due("with 5", x.set(0, 2, 5), -1);
        due("with -1", x.set(0, 2, -1), 5);
        due("dust 999", x.set(0, 3, 999), 0);
        due("dust 0", x.set(0, 3, 0), 999);
        due("made", x.now(4), 0);
        int[][] bad = {{0, 0, 0}, {0, 4, 0}, {0, -1, 0}, {0, 1, -1}, {0, 1, 101}, {0, 2, -2}, {0, 2, 6},
            {0, 3, -1}, {0, 3, 1000}, {1, 1, 0}, {-1, 1, 0}, {0, 2, LOWEST}, {HIGHEST, 2, 0}};
        for (int[] b : bad) {
            due("wrong", x.set(b[0], b[1], b[2]), BEYOND);
        }
        due("kind stays", x.of(0, 0), JERSEY);
        due("done stays", x.of(0, 1), 0);
        due("with stays", x.of(0, 2), -1);
        due("dust stays", x.of(0, 3), 0);
        due("status(0)", x.status(0), bad.length);
    }

    private static void turn() {
        promise = 8;
        UnfinishedFair x = new UnfinishedFair();
        put(x, BOAT, 12, 4, 6);
        due("to a letter", x.turn(0, LETTER), BOAT);
        due("to the same", x.turn(0, LETTER), LETTER);
        due("thing 1", x.turn(1, 0), BEYOND);
        due("thing -1", x.turn(-1, 0), BEYOND);
        due("kind 6", x.turn(0, 6), BEYOND);
        due("kind -1", x.turn(0, -1), BEYOND);
        due("kind", x.of(0, 0), LETTER);
        due("done", x.of(0, 1), 12);
        due("with", x.of(0, 2), 4);
        due("dust", x.of(0, 3), 6);
    }

    private static void as() {
        promise = 9;
        UnfinishedFair x = new UnfinishedFair();
        boolean[][] is = {
            {true, false, false, false, false, false},
            {true, true, false, false, false, false},
            {true, false, true, false, false, false},
            {true, false, false, true, false, false},
            {true, true, false, false, true, false},
            {true, false, true, false, false, true}};
        int not = 0;
        for (int k = 0; k < 6; k++) {
            x.thing(k, 20 + k);
            for (int as = 0; as < 6; as++) {
                not += is[k][as] ? 0 : 1;
                due(k + " as " + as, x.as(k, as), is[k][as] ? 20 + k : KIND);
            }
        }
        due("kind -1", x.as(0, -1), BEYOND);
        due("kind 6", x.as(0, 6), BEYOND);
        due("thing 6", x.as(6, 0), BEYOND);
        due("thing -1", x.as(-1, 0), BEYOND);
        due("status(2)", x.status(2), not);
        due("status(0)", x.status(0), 4);
    }

    private static void leave() {
        promise = 10;
        UnfinishedFair x = new UnfinishedFair();
        put(x, THING, 30, 2, 17);
        put(x, THING, 30, 2, 18);
        put(x, THING, 30, -1, 19);
        x.set(1, 1, 100);
        x.person(2, 1, 9);
        due("leave", x.leave(0), 2);
        due("with", x.of(0, 2), -1);
        due("dust", x.of(0, 3), 0);
        due("done", x.of(0, 1), 30);
        due("zeal", x.personOf(2, 1), 4);
        x.person(2, 1, 7);
        due("on the common", x.leave(0), STATE);
        due("finished", x.leave(1), STATE);
        due("with stays", x.of(1, 2), 2);
        due("dust stays", x.of(1, 3), 18);
        due("common's dust stays", x.leave(2), STATE);
        due("common's dust", x.of(2, 3), 19);
        due("zeal stays", x.personOf(2, 1), 7);
        due("thing 3", x.leave(3), BEYOND);
        due("thing -1", x.leave(-1), BEYOND);
        due("status(4)", x.status(4), 3);
    }

    private static void goesTo() {
        promise = 11;
        UnfinishedFair x = withSkills(3, 4, 6, 6, 5, 1);
        x.thing(THING, 0);
        due("greatest, the least of two", x.goesTo(0), 2);
        put(x, THING, 0, 2, 0);
        due("one has one", x.goesTo(0), 2);
        put(x, THING, 0, 2, 0);
        due("one has two", x.goesTo(0), 3);
        x.set(1, 1, 100);
        due("one of two is finished", x.goesTo(0), 2);
        x.turn(0, QUARREL);
        due("a quarrel", x.goesTo(0), 5);
        x.turn(0, BOAT);
        due("boat asks 8", x.goesTo(0), NONE);
        x.set(0, 3, 1);
        due("boat asks 7", x.goesTo(0), NONE);
        x.set(0, 3, 2);
        due("boat asks 6", x.goesTo(0), 2);
        due("dust as it is", x.of(0, 3), 2);
        due("with nobody yet", x.of(0, 2), -1);
        due("with one", x.goesTo(2), STATE);
        x.set(0, 1, 100);
        due("finished", x.goesTo(0), STATE);
        due("thing 3", x.goesTo(3), BEYOND);
        due("thing -1", x.goesTo(-1), BEYOND);
        due("status(3)", x.status(3), 2);
        due("status(4)", x.status(4), 2);

        UnfinishedFair quarrels = withSkills(20, 20, 20, 20, 20, 20);
        quarrels.thing(QUARREL, 3);
        due("no bid", quarrels.goesTo(0), NONE);
        for (int i = 0; i < 4; i++) {
            put(quarrels, QUARREL, 3, i / 2, 0);
        }
        quarrels.turn(0, THING);
        due("two are busy", quarrels.goesTo(0), 2);

        UnfinishedFair first = withSkills(9, 8, 0, 0, 0, 0);
        put(first, THING, 0, 0, 0);
        put(first, THING, 0, 0, 0);
        first.thing(THING, 0);
        due("thing 0 is held, too", first.goesTo(2), 1);
    }

    private static void years() {
        promise = 12;
        UnfinishedFair x = withSkills(10, 0, 0, 0, 0, 0);
        put(x, THING, 85, 0, 3);
        due("a year", x.years(1), 0);
        due("done", x.of(0, 1), 95);
        due("zeal less", x.personOf(0, 1), 3);
        due("another", x.years(1), 1);
        due("done", x.of(0, 1), 100);
        due("zeal more", x.personOf(0, 1), 5);
        due("made", x.personOf(0, 2), 1);
        due("with still", x.of(0, 2), 0);
        due("dust still", x.of(0, 3), 3);
        due("later", x.years(3), 1);
        due("made once", x.personOf(0, 2), 1);
        due("YEAR", x.now(0), 5);
        due("n 0", x.years(0), BEYOND);
        due("n 61", x.years(61), BEYOND);
        due("n -1", x.years(-1), BEYOND);
        due("n highest", x.years(HIGHEST), BEYOND);
        due("YEAR stays", x.now(0), 5);
        leftOffInAYear();
        heldAtMost();
        fairByNumbers();
        dustAtTheFair();
        lastYear();
    }

    private static void leftOffInAYear() {
        UnfinishedFair x = withSkills(4, 5, 0, 0, 0, 0);
        put(x, BOAT, 10, 0, 9);
        due("boat, first year", x.years(1), 0);
        due("zeal", x.personOf(0, 1), 2);
        due("boat, left off", x.years(1), 0);
        due("done", x.of(0, 1), 14);
        due("zeal", x.personOf(0, 1), 4);
        due("dust", x.of(0, 3), 1);
        due("asks 7", x.of(0, 2), -1);
        x.years(1);
        due("asks 6", x.of(0, 2), -1);
        x.years(1);
        due("asks 5", x.of(0, 2), 1);
        due("dust", x.of(0, 3), 3);

        UnfinishedFair again = withSkills(9, 2, 2, 2, 2, 2);
        put(again, THING, 10, 0, 9);
        again.person(0, 1, 1);
        again.years(1);
        due("left and taken in one year", again.of(0, 2), 0);
        due("its dust", again.of(0, 3), 1);
        due("zeal", again.personOf(0, 1), 4);

        UnfinishedFair below = withSkills(2, 2, 2, 2, 2, 2);
        put(below, BOAT, 10, 0, 9);
        below.person(0, 1, 1);
        below.years(1);
        due("zeal below 0", below.of(0, 2), -1);
        due("zeal from below 0", below.personOf(0, 1), 4);

        UnfinishedFair quarrel = withSkills(20, 20, 20, 20, 20, 20);
        put(quarrel, QUARREL, 97, 0, 0);
        quarrel.years(9);
        due("quarrel", quarrel.of(0, 1), 99);
        due("quarrel's", quarrel.of(0, 2), 0);
        quarrel.person(0, 1, 0);
        quarrel.years(1);
        due("zeal 0", quarrel.of(0, 2), -1);
    }

    private static void heldAtMost() {
        UnfinishedFair x = withSkills(1, 1, 1, 1, 1, 1);
        put(x, THING, 99, 0, 0);
        x.person(0, 2, 999);
        x.person(0, 1, 8);
        x.years(1);
        due("made held", x.personOf(0, 2), 999);
        due("zeal held", x.personOf(0, 1), 9);
        put(x, THING, 0, -1, 998);
        x.years(1);
        due("dust 999", x.of(1, 3), 999);
        x.years(1);
        due("dust held", x.of(1, 3), 999);
        due("finished has no dust", x.of(0, 3), 0);
    }

    private static void fairByNumbers() {
        UnfinishedFair x = withSkills(0, 9, 8, 0, 0, 0);
        for (int i = 0; i < 6; i++) {
            x.thing(THING, 0);
        }
        x.set(0, 1, 100);
        x.years(1);
        int[] with = {-1, 1, 1, 2, 2, -1};
        int[] dust = {0, 1, 1, 1, 1, 1};
        for (int i = 0; i < 6; i++) {
            due("with " + i, x.of(i, 2), with[i]);
            due("dust " + i, x.of(i, 3), dust[i]);
            due("done " + i, x.of(i, 1), i == 0 ? 100 : 0);
        }
        x.set(1, 1, 95);
        x.years(1);
        due("room after a finish", x.of(5, 2), 1);
        due("dust", x.of(5, 3), 2);
        due("zeal up by 2, down by 1", x.personOf(1, 1), 5);
        due("zeal down by 2", x.personOf(2, 1), 2);
    }

    private static void dustAtTheFair() {
        UnfinishedFair x = withSkills(0, 1, 0, 0, 0, 0);
        put(x, BRIDGE, 0, -1, 5);
        x.years(1);
        due("asks 2, bid 1", x.of(0, 2), -1);
        x.years(1);
        due("asks 1, bid 1", x.of(0, 2), 1);

        UnfinishedFair letters = withSkills(5, 0, 0, 0, 0, 0);
        put(letters, LETTER, 29, -1, 9);
        letters.years(1);
        due("letter asks 10", letters.of(0, 2), 0);
        letters.years(1);
        due("dust 10", letters.of(0, 1), 37);
        letters.set(0, 3, 11);
        letters.years(1);
        due("dust 11", letters.of(0, 1), 53);
        due("a letter doesn't tire", letters.personOf(0, 1), 4);
    }

    private static void lastYear() {
        UnfinishedFair x = new UnfinishedFair();
        x.thing(QUARREL, 98);
        for (int i = 0; i < 166; i++) {
            x.years(60);
        }
        due("YEAR", x.now(0), 9960);
        due("9999 and 1", x.years(40), STATE);
        due("YEAR", x.now(0), 9960);
        due("wrong before late", x.years(61), BEYOND);
        due("on", x.on(0, 100, 0), 99);
        due("9999", x.years(39), 0);
        due("YEAR", x.now(0), 9999);
        due("no more", x.years(1), STATE);
        due("on", x.on(0, 1, 1), 0);
        due("status(4)", x.status(4), 2);
    }

    private static void now() {
        promise = 13;
        UnfinishedFair x = new UnfinishedFair();
        due("none: done", x.now(3), 0);
        due("none: finished", x.now(1), 0);
        put(x, THING, 10, -1, 5);
        put(x, THING, 20, 4, 6);
        put(x, THING, 30, -1, 7);
        put(x, THING, 40, 0, 8);
        x.set(2, 1, 100);
        x.set(3, 1, 100);
        x.person(0, 2, 999);
        x.person(5, 2, 3);
        due("finished", x.now(1), 12);
        due("on the common", x.now(2), 5);
        due("done", x.now(3), 230);
        due("made", x.now(4), 1002);
        x.years(2);
        due("YEAR", x.now(0), 2);
        due("what 5", x.now(5), BEYOND);
        due("what -1", x.now(-1), BEYOND);
    }

    private static void on() {
        promise = 14;
        UnfinishedFair x = withSkills(4, 5, 0, 0, 0, 0);
        put(x, BOAT, 10, 0, 9);
        int[] done = {10, 12, 14, 14, 14, 16, 18};
        int[] with = {0, 0, -1, -1, 1, 1, -1};
        int[] dust = {9, 9, 1, 2, 3, 3, 1};
        for (int n = 0; n < done.length; n++) {
            due("done on " + n, x.on(0, n, 0), done[n]);
            due("with on " + n, x.on(0, n, 1), with[n]);
            due("dust on " + n, x.on(0, n, 2), dust[n]);
        }
        due("now done", x.of(0, 1), 10);
        due("now with", x.of(0, 2), 0);
        due("now dust", x.of(0, 3), 9);
        due("now zeal", x.personOf(0, 1), 4);
        due("now YEAR", x.now(0), 0);
        due("on 100", x.on(0, 100, 0), 100);
        due("n 101", x.on(0, 101, 0), BEYOND);
        due("n -1", x.on(0, -1, 0), BEYOND);
        due("thing 1", x.on(1, 0, 0), BEYOND);
        due("thing -1", x.on(-1, 0, 0), BEYOND);
        due("what 3", x.on(0, 0, 3), BEYOND);
        due("what -1", x.on(0, 0, -1), BEYOND);
    }

    private static void then() {
        promise = 15;
        UnfinishedFair x = withSkills(10, 0, 0, 0, 0, 0);
        put(x, THING, 75, 0, 0);
        int[] zeal = {4, 3, 2, 4, 4};
        int[] made = {0, 0, 0, 1, 1};
        for (int n = 0; n < zeal.length; n++) {
            due("zeal on " + n, x.then(0, n, 0), zeal[n]);
            due("made on " + n, x.then(0, n, 1), made[n]);
        }
        due("another's", x.then(5, 100, 1), 0);
        due("now", x.personOf(0, 2), 0);
        due("person 6", x.then(6, 0, 0), BEYOND);
        due("person -1", x.then(-1, 0, 0), BEYOND);
        due("n 101", x.then(0, 101, 0), BEYOND);
        due("n -1", x.then(0, -1, 0), BEYOND);
        due("what 2", x.then(0, 0, 2), BEYOND);
        due("what -1", x.then(0, 0, -1), BEYOND);
    }

    /**
     * A bridge, and nobody has skill: from dust 9 it is taken in the first fair, gone on with for 2
     * in each of two years, left, and taken again when its dust is 10: in the years 2, 3, 13, 14, ..
     * 200, 201 it goes on.
     */
    private static UnfinishedFair slowBridge(int done, int dust) {
        UnfinishedFair x = withSkills(0, 0, 0, 0, 0, 0);
        put(x, BRIDGE, done, -1, dust);
        return x;
    }

    private static void finished() {
        promise = 16;
        due("in 200", slowBridge(26, 9).finished(0), 200);
        due("in 201", slowBridge(25, 9).finished(0), NONE);
        due("in 2", slowBridge(99, 9).finished(0), 2);
        UnfinishedFair x = slowBridge(26, 9);
        x.set(0, 1, 100);
        due("in 0", x.finished(0), 0);
        x.set(0, 1, 25);
        due("never", x.finished(0), NONE);
        due("now", x.of(0, 1), 25);
        due("thing 1", x.finished(1), BEYOND);
        due("thing -1", x.finished(-1), BEYOND);
        due("status(3)", x.status(3), 1);
    }

    private static void comes() {
        promise = 17;
        UnfinishedFair x = withSkills(4, 5, 0, 0, 0, 0);
        put(x, BOAT, 10, 0, 9);
        due("now", x.comes(0, 0), 0);
        due("in 4", x.comes(0, 1), 4);
        due("never", x.comes(0, 2), NONE);
        due("still", x.of(0, 2), 0);
        x.set(0, 1, 100);
        due("finished things stay", x.comes(0, 1), NONE);
        due("and are with one", x.comes(0, 0), 0);
        due("thing 1", x.comes(1, 0), BEYOND);
        due("thing -1", x.comes(-1, 0), BEYOND);
        due("person 6", x.comes(0, 6), BEYOND);
        due("person -1", x.comes(0, -1), BEYOND);
        due("status(3)", x.status(3), 2);
        // one has its hands full with a quarrel and a bridge, until the bridge is finished
        UnfinishedFair late = withSkills(1, 0, 0, 1, 0, 0);
        put(late, QUARREL, 24, 5, 1);
        put(late, BRIDGE, 3, 0, 0);
        put(late, BOAT, 9, 2, 2);
        put(late, QUARREL, 8, 0, 4);
        due("in 200", late.comes(2, 0), 200);
    }

    private static void all() {
        promise = 18;
        UnfinishedFair x = new UnfinishedFair();
        due("nothing", x.all(), 0);
        due("in 200", slowBridge(26, 9).all(), 200);
        UnfinishedFair late = slowBridge(25, 9);
        due("in 201", late.all(), NONE);
        due("status(3)", late.status(3), 1);
        put(x, THING, 90, 0, 0);
        put(x, THING, 91, 0, 0);
        due("in 2", x.all(), 2);
        put(x, THING, 99, -1, 0);
        due("the fair first", x.all(), 2);
        x.thing(QUARREL, 0);
        due("never", x.all(), NONE);
        due("now", x.now(3), 280);
        UnfinishedFair eight = new UnfinishedFair();
        for (int i = 0; i < 8; i++) {
            eight.thing(THING, 0);
            eight.set(i, 1, i == 7 ? 99 : 100);
        }
        eight.set(7, 2, 0);
        due("eight", eight.all(), 1);
    }

    private static void give() {
        promise = 19;
        UnfinishedFair x = withSkills(5, 10, 20, 20, 1, 1);
        put(x, THING, 85, 4, 0);
        due("soonest, the least", x.give(0), 2);
        x.set(0, 1, 95);
        due("all but two in one", x.give(0), 0);
        x.set(0, 1, 0);
        for (int i = 0; i < 3; i++) {
            put(x, QUARREL, 0, 2, 0);
        }
        due("whatever it has", x.give(0), 2);
        due("with still", x.of(0, 2), 4);
        x.set(0, 1, 100);
        due("finished", x.give(0), STATE);
        due("thing 4", x.give(4), BEYOND);
        due("thing -1", x.give(-1), BEYOND);
        due("a quarrel", x.give(1), NONE);
        due("in 100", slowBridge(62, 0).give(0), 0);
        due("in 101", slowBridge(61, 0).give(0), NONE);
        UnfinishedFair dusty = withSkills(1, 7, 0, 0, 0, 0);
        put(dusty, LETTER, 86, -1, 11);
        due("dust stays", dusty.give(0), 1);
        dusty.set(0, 1, 98);
        due("dust makes it twice", dusty.give(0), 0);
    }

    private static void kind() {
        promise = 20;
        UnfinishedFair x = withSkills(5, 0, 0, 0, 0, 0);
        put(x, BOAT, 42, 0, 0);
        due("jersey is quicker", x.kind(0), JERSEY);
        x.set(0, 3, 11);
        due("letter is quicker", x.kind(0), LETTER);
        x.set(0, 1, 99);
        due("all alike but a quarrel", x.kind(0), THING);
        due("kind still", x.of(0, 0), BOAT);
        x.set(0, 1, 100);
        due("finished", x.kind(0), THING);
        due("thing 1", x.kind(1), BEYOND);
        due("thing -1", x.kind(-1), BEYOND);
        due("in 100", slowBridge(64, 0).kind(0), BRIDGE);
        UnfinishedFair late = slowBridge(63, 0);
        due("in 110", late.kind(0), NONE);
        due("status(3)", late.status(3), 1);
        // with one from now on: it goes on in the years 1, 2, 12, 13, .. 100, 101
        UnfinishedFair held = slowBridge(62, 0);
        held.set(0, 2, 0);
        due("in 100", held.kind(0), BRIDGE);
        held.set(0, 1, 61);
        due("in 101", held.kind(0), NONE);
        UnfinishedFair quarrel = withSkills(20, 20, 20, 20, 20, 20);
        put(quarrel, THING, 98, -1, 0);
        quarrel.set(0, 2, 0);
        due("not a quarrel", quarrel.kind(0), THING);
    }

    private static void zeal() {
        promise = 21;
        UnfinishedFair x = withSkills(19, 20, 0, 0, 0, 0);
        put(x, THING, 0, 0, 0);
        due("6 years of it", x.zeal(0, 6, 1), 6);
        due("in 60", x.zeal(0, 60, 1), 6);
        due("not in 5", x.zeal(0, 5, 1), NONE);
        due("not 2", x.zeal(0, 60, 2), NONE);
        due("in 1", x.zeal(0, 1, 0), 0);
        due("v 0", x.zeal(0, 6, 0), 0);
        x.person(0, 2, 998);
        due("v 999", x.zeal(0, 6, 999), 6);
        due("v 998", x.zeal(0, 6, 998), 0);
        due("zeal still", x.personOf(0, 1), 4);
        due("done still", x.of(0, 1), 0);
        int[][] bad = {{6, 1, 0}, {-1, 1, 0}, {0, 0, 0}, {0, 61, 0}, {0, 1, -1}, {0, 1, 1000}};
        for (int[] b : bad) {
            due("wrong", x.zeal(b[0], b[1], b[2]), BEYOND);
        }
        due("status(3)", x.status(3), 2);
        UnfinishedFair nine = withSkills(12, 20, 0, 0, 0, 0);
        put(nine, THING, 0, 0, 0);
        due("9 years want zeal 9", nine.zeal(0, 9, 1), 9);
        nine.person(0, 0, 11);
        due("10 years want more", nine.zeal(0, 10, 1), NONE);
    }

    private static void skill() {
        promise = 22;
        UnfinishedFair x = withSkills(3, 0, 0, 0, 0, 0);
        due("nothing to finish", x.skill(0, 1), 0);
        put(x, THING, 80, 0, 0);
        due("in 1", x.skill(0, 1), 20);
        due("in 2", x.skill(0, 2), 10);
        due("in 3", x.skill(0, 3), 7);
        due("another's", x.skill(1, 3), NONE);
        due("skill still", x.personOf(0, 0), 3);
        due("done still", x.of(0, 1), 80);
        x.set(0, 1, 79);
        due("21 there is not", x.skill(0, 1), NONE);
        x.set(0, 1, 100);
        due("finished", x.skill(5, 60), 0);
        due("person 6", x.skill(6, 1), BEYOND);
        due("person -1", x.skill(-1, 1), BEYOND);
        due("n 0", x.skill(0, 0), BEYOND);
        due("n 61", x.skill(0, 61), BEYOND);
        due("status(3)", x.status(3), 2);
    }

    private static void maker() {
        promise = 23;
        UnfinishedFair x = new UnfinishedFair();
        due("nobody yet", x.maker(0), 0);
        put(x, THING, 95, 4, 0);
        due("on 0", x.maker(0), 0);
        due("on 1", x.maker(1), 4);
        put(x, THING, 90, 3, 0);
        due("of several the least", x.maker(2), 3);
        due("on 1", x.maker(1), 4);
        x.person(5, 2, 2);
        due("had made", x.maker(100), 5);
        due("made still", x.now(4), 2);
        for (int p = 4; p >= 0; p--) {
            x.person(p, 2, 20 - p);
            due("maker " + p, x.maker(0), p);
        }
        due("n -1", x.maker(-1), BEYOND);
        due("n 101", x.maker(101), BEYOND);
    }

    private static void drop() {
        promise = 24;
        UnfinishedFair x = withSkills(4, 20, 0, 0, 0, 0);
        due("nothing", x.drop(1), NONE);
        put(x, BOAT, 50, 0, 0);
        put(x, THING, 0, 0, 0);
        due("on 1", x.drop(1), 0);
        due("on 2", x.drop(2), 1);
        x.thing(THING, 0);
        x.set(2, 1, 100);
        due("finished ones can't be", x.drop(2), 1);
        due("with still", x.of(1, 2), 0);
        due("n 0", x.drop(0), BEYOND);
        due("n 31", x.drop(31), BEYOND);
        due("n 30", x.drop(30), 0);
        x.set(0, 2, -1);
        x.set(1, 1, 100);
        x.set(2, 2, 3);
        due("none can be", x.drop(30), NONE);
        due("status(3)", x.status(3), 2);

        UnfinishedFair alike = new UnfinishedFair();
        put(alike, THING, 0, 0, 0);
        put(alike, THING, 0, 1, 0);
        due("of several the least", alike.drop(1), 0);

        UnfinishedFair tired = withSkills(10, 12, 0, 0, 0, 0);
        put(tired, BOAT, 0, 0, 0);
        put(tired, THING, 80, 0, 0);
        tired.person(0, 1, 1);
        due("zeal is 4 then", tired.drop(1), 0);
    }

    private static void feed() {
        promise = 25;
        UnfinishedFair x = new UnfinishedFair();
        due("n 0", x.feed(0, 0), BEYOND);
        due("n 5", x.feed(0, 5), BEYOND);
        due("n -1", x.feed(0, -1), BEYOND);
        due("n 1", x.feed(0x7A657374, 1), 1);
        due("n 2", x.feed(0x7A656869, 2), 3);
        due("n 3", x.feed(0x7A6E6720, 3), 6);
        due("n 1", x.feed('7', 1), 7);
        due("thing 7", x.common(), 1);
        due("done 7", x.of(0, 1), 7);
        due("n 4", x.feed(('z' << 24) | ('e' << 16) | ('a' << 8) | 'l', 4), 4);
        tell(x, "2 9");
        due("zeal2 9", x.personOf(2, 1), 9);
        for (int i = 1; i <= 29; i++) {
            due("fill", x.feed(-1, 4), 4 * i);
        }
        due("118", x.feed(-1, 2), 118);
        due("3 are too many", x.feed(-1, 3), FULL);
        due("as it was", x.count(1), 118);
        due("120", x.feed(-1, 2), 120);
        due("1 is too many", x.feed(-1, 1), FULL);
        due("wrong before full", x.feed(-1, 5), BEYOND);
        due("as it was", x.count(1), 120);
        due("status(1)", x.status(1), 2);
    }

    private static void wipe() {
        promise = 26;
        UnfinishedFair x = new UnfinishedFair();
        due("empty", x.wipe(), 0);
        feedText(x, "thing 5");
        due("seven", x.wipe(), 7);
        due("empty", x.count(1), 0);
        due("again", x.wipe(), 0);
        feedText(x, "zeal 1 2");
        due("only what came since", x.common(), 1);
        due("no thing", x.count(0), 0);
    }

    private static void common() {
        promise = 27;
        commonTakesItems();
        commonFaults();
        commonIsFull();
    }

    private static void commonTakesItems() {
        UnfinishedFair x = new UnfinishedFair();
        due("items", tell(x, "thing0;boat 1 by 0;jersey 2 dust 3; quarrel 4by5dust006"), 4);
        due("items", tell(x, "  bridge 99 by 3 dust 999 ;letter 0000000000000000000050  "), 2);
        due("items", tell(x, "skill 0 20;zeal 5 9;skill 5 0;zeal 0 0;skill 1 9;skill 1 8"), 6);
        int[] kind = {THING, BOAT, JERSEY, QUARREL, BRIDGE, LETTER};
        int[] done = {0, 1, 2, 4, 99, 50};
        int[] with = {-1, 0, -1, 5, 3, -1};
        int[] dust = {0, 0, 3, 6, 999, 0};
        due("count", x.count(0), 6);
        for (int i = 0; i < 6; i++) {
            due("kind " + i, x.of(i, 0), kind[i]);
            due("done " + i, x.of(i, 1), done[i]);
            due("with " + i, x.of(i, 2), with[i]);
            due("dust " + i, x.of(i, 3), dust[i]);
        }
        due("skill of 0", x.personOf(0, 0), 20);
        due("zeal of 5", x.personOf(5, 1), 9);
        due("skill of 5", x.personOf(5, 0), 0);
        due("zeal of 0", x.personOf(0, 1), 0);
        due("the last is so", x.personOf(1, 0), 8);
        due("the tape is empty", x.count(1), 0);
        due("status(-1)", x.status(-1), 0);
    }

    private static void commonFaults() {
        Object[][] faults = {{"", 0}, {"   ", 3}, {"thing", 5}, {"thing ", 6}, {"thing 5;", 8},
            {"thing 5 ; ", 10}, {";thing 5", 0}, {"thing 5;;thing 5", 8}, {"thing 100", 6}, {"thing 99 by", 11},
            {"thing 9 by 6", 11}, {"thing 9 by by", 11}, {"thing 9 dust 1000", 13}, {"thing 9 dust", 12},
            {"thing 9 dust 1 by 1", 15}, {"thing 9 by 1 by 1", 13}, {"thing 9 9", 8}, {"thing boat", 6},
            {"things 9", 0}, {"thin 9", 0}, {"Thing 9", 0}, {"thinG 9", 0}, {"5", 0}, {"by 5", 0},
            {"dust 5", 0}, {"skill", 5}, {"skill 6 1", 6}, {"skill 0", 7}, {"skill 0 21", 8},
            {"skill 0;", 7}, {"zeal 0 10", 7}, {"zeal 6 1", 5}, {"zeal 1 1 1", 9}, {"zeals 1 1", 0},
            {"skill by", 6}, {"thing 9 by 1 dust 3 4", 20}, {"thing 9.", 7}, {"thing 9\t", 7},
            {"\nthing 9", 0}, {"thing 9 ~", 8}, {"thing 99999999999999999999999999", 6},
            {"thing 4294967297", 6}, {"thing 9 dust 18446744073709551617", 13}, {"thing -1", 6},
            {"thing 9 byzantium 1", 8}, {"zeal 1 1;boat 100", 14}, {"thing 9,boat 1", 7},
            {"thing 9 \u0000", 8}, {"thing 9 \u00e9", 8}, {"boat 1 zeal 1 1", 7}, {"jersey 1 by 1 boat", 14},
            {"skill 1", 7}, {"thing 9 skill", 8}, {"{", 0}, {"`", 0}, {"thing /", 6}, {"thing :", 6},
            {"letter 3 dust;", 13}, {"letter 3 by;", 11}, {"quarrel;", 7}, {"xhing 3", 0}, {"thinx 3", 0},
            {"thing 3 cy 1", 8}, {"thing 3 rust 1", 8}, {"real 1 1", 0}, {"thing by 1", 6}, {"thing dust 1", 6}};
        for (Object[] fault : faults) {
            UnfinishedFair x = new UnfinishedFair();
            x.thing(BOAT, 3);
            String text = (String) fault[0];
            due("'" + text + "'", tell(x, text), -1 - (Integer) fault[1]);
            due("the tape is empty", x.count(1), 0);
            due("nothing came", x.count(0), 1);
            due("skill stays", x.personOf(0, 0), 5);
            due("zeal stays", x.personOf(1, 1), 4);
            due("no finding", x.status(-1), 0);
        }
        UnfinishedFair x = new UnfinishedFair();
        due("late", tell(x, "skill 0 9;zeal 1 1;thing 5;boat"), -32);
        due("skill stays", x.personOf(0, 0), 5);
        due("zeal stays", x.personOf(1, 1), 4);
        due("no thing", x.count(0), 0);
        due("120 blanks", tell(x, " ".repeat(120)), -121);
        due("120 letters", tell(x, "a".repeat(120)), -1);
        due("120 digits", tell(x, "thing" + "0".repeat(115)), 1);
        due("no more than was fed", tell(x, "thing 1 "), 1);
        due("no old digits", tell(x, "thing 2"), 1);
        due("no old bytes", tell(x, "thin"), -1);
        due("dust 0", tell(x, "thing 3 by 0 dust 0"), 1);
        due("zeros and ones", x.now(3), 6);
        due("with 0", x.of(3, 2), 0);
    }

    private static void commonIsFull() {
        UnfinishedFair x = new UnfinishedFair();
        for (int i = 0; i < 6; i++) {
            x.thing(THING, 0);
        }
        due("a 9th", tell(x, "boat 1;boat 2;skill 1 1; boat 3"), -26);
        due("a 9th before its number", tell(x, "boat 1;boat 2;boat"), -15);
        due("six still", x.count(0), 6);
        due("an 8th", tell(x, "boat 1;boat 2;skill 1 1"), 3);
        due("eight", x.count(0), 8);
        due("people still", tell(x, "zeal 1 1"), 1);
        due("a 9th", tell(x, " thing 1"), -2);
        StringBuilder many = new StringBuilder("zeal 0 0");
        for (int i = 1; i <= 16; i++) {
            many.append(";zeal").append(i % 6 % 4).append(i % 2).append(' ');
        }
        due("numbers as long as can be", tell(x, many.substring(0, 15)), -14);
        StringBuilder items = new StringBuilder();
        for (int i = 0; i < 15; i++) {
            items.append("zeal").append(i % 6).append(' ').append(i % 10).append(';');
        }
        items.setLength(items.length() - 1);
        due("fifteen items", tell(x, items.toString()), 15);
        due("zeal of 2", x.personOf(2, 1), 4);
    }

    private static void sheet() {
        promise = 28;
        UnfinishedFair x = new UnfinishedFair();
        due("8 bits", x.sheet(0, 8, 40), 40);
        due("16 bits", x.sheet(1, 16, 1), 1);
        due("64 bits", x.sheet(3, 64, 0), 0);
        due("last", x.write(0, 39, 5), 0);
        due("anew", x.sheet(0, 8, 40), 40);
        due("all 0", x.write(0, 39, 5), 0);
        due("missing", x.sheet(0, 0, 12), 0);
        due("is missing", x.write(0, 0, 1), MISSING);
        due("no number", x.write(3, 0, 1), BEYOND);
        due("sheet 4", x.sheet(4, 8, 1), BEYOND);
        due("sheet -1", x.sheet(-1, 8, 1), BEYOND);
        for (int bits : new int[] {1, 7, 9, 32, 63, 65, -8, LOWEST}) {
            due("bits " + bits, x.sheet(0, bits, -1), BEYOND);
        }
        due("n -1", x.sheet(1, 8, -1), SIZE);
        due("n lowest", x.sheet(1, 8, LOWEST), SIZE);
        due("n -1, missing", x.sheet(1, 0, -1), SIZE);
        due("n 41", x.sheet(1, 8, 41), BEYOND);
        due("n 41, missing", x.sheet(1, 0, 41), BEYOND);
        due("as it was", x.write(1, 0, 300), 0);
        due("16 bits still", x.write(1, 0, 0), 300);
        due("status(6)", x.status(6), 3);
        due("status(5)", x.status(5), 1);
        due("status(0)", x.status(0), 13);
    }

    private static void write() {
        promise = 29;
        UnfinishedFair x = new UnfinishedFair();
        x.sheet(0, 8, 2);
        x.sheet(1, 16, 2);
        x.sheet(2, 64, 2);
        long[] values = {127, -128, 5, 0x123456789ABCDEF0L, 255, Long.MIN_VALUE, 32767, -1};
        long was8 = 0;
        long was16 = 0;
        long was64 = 0;
        for (long v : values) {
            due("8 bits", x.write(0, 1, v), was8);
            due("16 bits", x.write(1, 1, v), was16);
            due("64 bits", x.write(2, 1, v), was64);
            was8 = (byte) v;
            was16 = (short) v;
            was64 = v;
        }
        due("another number", x.write(0, 0, 1), 0);
        due("sheet 4", x.write(4, 0, 1), BEYOND);
        due("sheet -1", x.write(-1, 0, 1), BEYOND);
        due("missing", x.write(3, -1, 1), MISSING);
        due("number -1", x.write(0, -1, 1), BEYOND);
        due("number 2", x.write(0, 2, 1), BEYOND);
        due("number highest", x.write(0, HIGHEST, 1), BEYOND);
        due("status(5)", x.status(5), 1);
        due("status(0)", x.status(0), 5);
    }

    private static void copy() {
        promise = 30;
        UnfinishedFair x = new UnfinishedFair();
        x.sheet(0, 8, 6);
        x.sheet(1, 8, 3);
        x.sheet(2, 16, 6);
        for (int i = 0; i < 6; i++) {
            x.write(0, i, 10 + i);
        }
        due("to another", x.copy(0, 3, 1, 0, 3), 3);
        for (int i = 0; i < 3; i++) {
            due("came", x.write(1, i, i), 13 + i);
        }
        due("to the right", x.copy(0, 0, 0, 1, 5), 5);
        int[] right = {10, 10, 11, 12, 13, 14};
        for (int i = 0; i < 6; i++) {
            due("as they were", x.write(0, i, 10 + i), right[i]);
        }
        due("to the left", x.copy(0, 2, 0, 0, 4), 4);
        int[] left = {12, 13, 14, 15, 14, 15};
        for (int i = 0; i < 6; i++) {
            due("as they were", x.write(0, i, left[i]), left[i]);
        }
        due("none", x.copy(0, 6, 1, 3, 0), 0);
        int[][] beyond = {{4, 0, 0, 0, 0}, {0, 0, 4, 0, 0}, {-1, 0, 3, 0, 0}, {3, 0, -1, 0, 0}, {0, 0, 1, 0, 4},
            {1, 0, 0, 0, 4}, {0, 4, 1, 0, 3}, {0, 0, 1, 1, 3}, {0, -1, 1, 0, 1}, {0, 0, 1, -1, 1},
            {0, 0, 1, 0, -1}, {0, 7, 1, 0, 0}, {0, 0, 1, 4, 0}, {0, HIGHEST, 1, 0, 1}, {0, 0, 1, HIGHEST, 1},
            {0, 0, 1, 0, HIGHEST}, {0, HIGHEST, 1, HIGHEST, HIGHEST}, {0, LOWEST, 1, 0, LOWEST}};
        for (int[] b : beyond) {
            due("beyond", x.copy(b[0], b[1], b[2], b[3], b[4]), BEYOND);
        }
        due("missing from", x.copy(3, 0, 2, 0, -1), MISSING);
        due("missing to", x.copy(2, 0, 3, 0, -1), MISSING);
        due("other bits", x.copy(0, 0, 2, 0, -1), KIND);
        due("status(0)", x.status(0), beyond.length);
        due("status(2)", x.status(2), 1);
        due("status(5)", x.status(5), 2);
        for (int i = 0; i < 6; i++) {
            due("nothing came", x.write(0, i, 0), left[i]);
        }
    }

    private static void lays() {
        promise = 31;
        UnfinishedFair x = new UnfinishedFair();
        x.sheet(2, 64, 9);
        long[] numbers = {20, 21, -1, 0, 1L << 32, 7, 3, 3, 3};
        for (int i = 0; i < 9; i++) {
            x.write(2, i, numbers[i]);
        }
        due("three came", x.lays(2), 3);
        int[] skills = {20, 5, 5, 0, 5, 7};
        for (int p = 0; p < 6; p++) {
            due("skill of " + p, x.personOf(p, 0), skills[p]);
        }
        x.sheet(1, 8, 2);
        due("two came", x.lays(1), 2);
        due("skill of 1", x.personOf(1, 0), 0);
        due("skill of 5", x.personOf(5, 0), 7);
        x.sheet(1, 8, 0);
        due("none came", x.lays(1), 0);
        due("missing", x.lays(0), MISSING);
        due("sheet 4", x.lays(4), BEYOND);
        due("sheet -1", x.lays(-1), BEYOND);
    }

    private static void book() {
        promise = 32;
        UnfinishedFair x = withSkills(4, 5, 0, 0, 0, 0);
        put(x, BOAT, 10, 0, 9);
        x.sheet(3, 16, 7);
        due("seven", x.book(3, 0), 7);
        int[] done = {10, 12, 14, 14, 14, 16, 18};
        for (int n = 0; n < 7; n++) {
            due("on " + n, x.write(3, n, 0), done[n]);
        }
        due("now", x.of(0, 1), 10);
        x.sheet(2, 8, 40);
        due("forty", x.book(2, 0), 40);
        due("on 39", x.write(2, 39, 0), x.on(0, 39, 0));
        x.sheet(3, 8, 0);
        due("none", x.book(3, 0), 0);
        due("sheet 4", x.book(4, 0), BEYOND);
        due("sheet -1", x.book(-1, 0), BEYOND);
        due("missing before thing", x.book(0, 9), MISSING);
        due("thing 1", x.book(3, 1), BEYOND);
        due("thing -1", x.book(3, -1), BEYOND);
        due("status(0)", x.status(0), 4);
        due("status(5)", x.status(5), 1);
    }

    private static void read() {
        promise = 33;
        UnfinishedFair x = new UnfinishedFair();
        put(x, THING, 10, 0, 0);
        x.sheet(0, 8, 0);
        due("nothing told", x.read(0, 0, 0), 126);
        x.sheet(0, 8, 1);
        due("another beginning", x.read(0, 0, 0), 0);
        x.write(0, 0, 10);
        due("the beginning alone", x.read(0, 0, 0), 126);
        x.sheet(0, 64, 2);
        x.write(0, 0, 10);
        x.write(0, 1, 15);
        // thing 5; boat 10, 11; jersey 2; bridge 6, 7; letter 2
        due("15 then", x.read(0, 0, 0), 7);
        x.write(0, 1, 15 + (1L << 32));
        due("as a long", x.read(0, 0, 0), 0);
        x.write(0, 1, 15);
        // another's skill is no matter: as a thing alone it goes on by 5
        due("another", x.read(0, 0, 1), 21);
        x.write(0, 1, 30);
        // thing 20; jersey 17; letter 17; bridge would need 36
        due("30 then", x.read(0, 0, 0), 3);
        due("kind still", x.of(0, 0), THING);
        due("skill still", x.personOf(0, 0), 5);
        due("done still", x.of(0, 1), 10);
        due("sheet 4", x.read(4, 0, 0), BEYOND);
        due("sheet -1", x.read(-1, 0, 0), BEYOND);
        due("missing before thing", x.read(1, 9, 9), MISSING);
        due("thing 1", x.read(0, 1, 0), BEYOND);
        due("thing -1", x.read(0, -1, 0), BEYOND);
        due("person 6", x.read(0, 0, 6), BEYOND);
        due("person -1", x.read(0, 0, -1), BEYOND);
        due("status(0)", x.status(0), 6);
        due("status(5)", x.status(5), 1);
    }

    private static void image() {
        promise = 34;
        UnfinishedFair x = new UnfinishedFair();
        put(x, LETTER, 10, 3, 4);
        x.person(1, 0, 11);
        x.person(1, 1, 7);
        x.person(1, 2, 3);
        x.years(1);
        due("image", x.image(), 1);
        feedText(x, "zeal");
        x.sheet(0, 8, 3);
        x.turn(0, BOAT);
        x.set(0, 1, 11);
        x.set(0, 2, 5);
        x.set(0, 3, 9);
        x.person(1, 0, 0);
        x.person(1, 1, 0);
        x.person(1, 2, 0);
        x.thing(THING, 0);
        x.years(5);
        x.finished(9);
        due("undo", x.undo(), 1);
        due("kind", x.of(0, 0), LETTER);
        due("done", x.of(0, 1), 18);
        due("with", x.of(0, 2), 3);
        due("dust", x.of(0, 3), 4);
        due("skill", x.personOf(1, 0), 11);
        due("zeal", x.personOf(1, 1), 7);
        due("made", x.personOf(1, 2), 3);
        due("YEAR", x.now(0), 1);
        due("the tape isn't kept", x.count(1), 4);
        due("a sheet isn't kept", x.write(0, 2, 1), 0);
        due("findings aren't", x.status(0), 1);
    }

    private static void undo() {
        promise = 35;
        UnfinishedFair x = new UnfinishedFair();
        due("nothing kept", x.undo(), NONE);
        due("image", x.image(), 1);
        x.thing(THING, 1);
        due("none then", x.undo(), 0);
        due("none", x.count(0), 0);
        x.thing(THING, 2);
        x.thing(THING, 3);
        due("a later one", x.image(), 1);
        x.set(0, 1, 50);
        due("the latest", x.undo(), 2);
        due("done", x.of(0, 1), 2);
        x.set(0, 1, 51);
        due("it stays", x.undo(), 2);
        due("done", x.of(0, 1), 2);
        due("status(3)", x.status(3), 1);
    }

    private static void tear() {
        promise = 36;
        UnfinishedFair x = new UnfinishedFair();
        due("nothing", x.tear(), 0);
        x.image();
        x.thing(THING, 1);
        due("something", x.tear(), 1);
        due("nothing", x.tear(), 0);
        due("undo", x.undo(), NONE);
        due("things stay", x.count(0), 1);
        due("image", x.image(), 1);
        due("undo", x.undo(), 1);
    }

    private static void count() {
        promise = 37;
        UnfinishedFair x = new UnfinishedFair();
        put(x, THING, 1, -1, 999);
        put(x, THING, 2, 0, 20);
        put(x, THING, 3, 0, 1);
        x.set(1, 1, 100);
        x.set(2, 1, 100);
        feedText(x, "abcde");
        due("things", x.count(0), 3);
        due("bytes", x.count(1), 5);
        due("finished", x.count(2), 2);
        due("dust", x.count(3), 1020);
        due("what 4", x.count(4), BEYOND);
        due("what -1", x.count(-1), BEYOND);
        due("what lowest", x.count(LOWEST), BEYOND);
    }

    private static void status() {
        promise = 38;
        UnfinishedFair x = new UnfinishedFair();
        for (int which = -1; which <= 6; which++) {
            due("none yet " + which, x.status(which), 0);
        }
        due("another one", x.status(7), BEYOND);
        due("counted", x.status(0), 1);
        due("another one", x.status(-2), BEYOND);
        due("counted", x.status(-1), 2);
        x.image();
        for (int i = 0; i < 9; i++) {
            x.thing(THING, 0);
        }
        x.as(0, 1);
        x.as(0, 2);
        x.finished(0);
        x.set(0, 1, 100);
        x.set(1, 2, 1);
        x.leave(0);
        x.goesTo(0);
        x.goesTo(1);
        x.write(0, 0, 0);
        x.lays(1);
        x.copy(0, 0, 1, 1, 1);
        x.book(2, 0);
        x.sheet(0, 8, -1);
        int[] each = {2, 1, 2, 0, 3, 4, 1};
        x.undo();
        for (int which = 0; which < 7; which++) {
            due("status(" + which + ")", x.status(which), each[which]);
        }
        due("all", x.status(-1), 13);
        x.tear();
        x.undo();
        due("NONE", x.status(3), 1);
        due("all", x.status(-1), 14);
    }

    public static void main(String[] args) {
        newObject();
        person();
        personOf();
        thing();
        of();
        by();
        set();
        turn();
        as();
        leave();
        goesTo();
        years();
        now();
        on();
        then();
        finished();
        comes();
        all();
        give();
        kind();
        zeal();
        skill();
        maker();
        drop();
        feed();
        wipe();
        common();
        sheet();
        write();
        copy();
        lays();
        book();
        read();
        image();
        undo();
        tear();
        count();
        status();
        System.out.println(checks + " answers looked at, " + wrong + " not as due");
        if (wrong != 0) {
            System.exit(1);
        }
    }
}
