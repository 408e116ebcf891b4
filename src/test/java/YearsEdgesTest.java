/** The edges that the document names for what a year does, and for the years (promises 12 to 18). */
public final class YearsEdgesTest {
    // ---- section 1: (1) going on

    /** One of a skill and a zeal has a thing; nobody else could get it. */
    private static UnfinishedFair one(int kind, int done, int skill, int zeal) {
        UnfinishedFair x = Edge.allWithSkill(kind == Edge.QUARREL ? 20 : 0);
        x.person(3, 0, skill);
        x.person(3, 1, zeal);
        Edge.put(x, kind, done, 3, 6);
        return x;
    }

    private static void dueThing(UnfinishedFair x, int thing, int done, int with, int dust) {
        Edge.due("done of " + thing, x.of(thing, 1), done);
        Edge.due("with of " + thing, x.of(thing, 2), with);
        Edge.due("dust of " + thing, x.of(thing, 3), dust);
    }

    private static void duePerson(UnfinishedFair x, int person, int zeal, int made) {
        Edge.due("zeal of " + person, x.personOf(person, 1), zeal);
        Edge.due("made of " + person, x.personOf(person, 2), made);
    }

    private static void goesOnInAYear() {
        Edge.sentence("DONE is what it GOES ON more (100 at most).");
        int[][] steps = {{0, 0, 0}, {0, 20, 20}, {79, 20, 99}, {80, 20, 100}, {81, 20, 100}, {99, 20, 100}, {99, 1, 100},
            {99, 0, 99}};
        for (int[] step : steps) {
            UnfinishedFair x = one(Edge.THING, step[0], step[1], 9);
            Edge.due("finished from " + step[0], x.years(1), step[2] == 100 ? 1 : 0);
            dueThing(x, 0, step[2], 3, 6);
            duePerson(x, 3, step[2] == 100 ? 9 : 8, step[2] == 100 ? 1 : 0);
        }
        Edge.sentence("THINGS by numbers that are WITH one and aren't finished");
        UnfinishedFair finished = one(Edge.THING, 100, 20, 4);
        finished.years(1);
        dueThing(finished, 0, 100, 3, 6);
        duePerson(finished, 3, 4, 0);
        UnfinishedFair lying = one(Edge.THING, 50, 3, 4);
        lying.set(0, 2, -1);
        lying.years(1);
        dueThing(lying, 0, 50, -1, 7);
        duePerson(lying, 3, 4, 0);
    }

    private static void finishing() {
        Edge.sentence("If it is finished then: MADE of that one is 1 more, ZEAL 2 more (9 at most).");
        int[][] zeals = {{0, 2}, {1, 3}, {6, 8}, {7, 9}, {8, 9}, {9, 9}};
        for (int[] zeal : zeals) {
            UnfinishedFair x = one(Edge.THING, 90, 10, zeal[0]);
            x.years(1);
            dueThing(x, 0, 100, 3, 6);
            duePerson(x, 3, zeal[1], 1);
        }
        Edge.sentence("MADE (things finished; 0 at first, held to 999)");
        int[][] mades = {{997, 998}, {998, 999}, {999, 999}};
        for (int[] made : mades) {
            UnfinishedFair x = one(Edge.THING, 90, 10, 4);
            x.person(3, 2, made[0]);
            x.years(1);
            duePerson(x, 3, 6, made[1]);
        }
    }

    private static void tiring() {
        Edge.sentence("Else ZEAL is what it TIRES less; if that is 0 or less: the thing is on the common, DUST 0, ZEAL 4.");
        // kind, zeal, zeal then, whether it is left
        int[][] cases = {{Edge.THING, 9, 8, 0}, {Edge.THING, 2, 1, 0}, {Edge.THING, 1, 4, 1}, {Edge.THING, 0, 4, 1},
            {Edge.BOAT, 3, 1, 0}, {Edge.BOAT, 2, 4, 1}, {Edge.BOAT, 1, 4, 1}, {Edge.BOAT, 0, 4, 1},
            {Edge.JERSEY, 2, 1, 0}, {Edge.JERSEY, 1, 4, 1}, {Edge.QUARREL, 9, 9, 0}, {Edge.QUARREL, 1, 1, 0},
            {Edge.QUARREL, 0, 4, 1}, {Edge.BRIDGE, 3, 1, 0}, {Edge.BRIDGE, 2, 4, 1}, {Edge.LETTER, 1, 1, 0},
            {Edge.LETTER, 0, 4, 1}};
        for (int[] c : cases) {
            UnfinishedFair x = one(c[0], 60, c[0] == Edge.QUARREL ? 20 : 2, c[1]);
            x.years(1);
            Edge.due("kind " + c[0] + ", zeal " + c[1], x.personOf(3, 1), c[2]);
            Edge.due("kind " + c[0] + ", zeal " + c[1] + ": with", x.of(0, 2), c[3] == 1 ? -1 : 3);
            // 0, and 1 more at the fair of the same year
            Edge.due("kind " + c[0] + ", zeal " + c[1] + ": dust", x.of(0, 3), c[3] == 1 ? 1 : 6);
        }
    }

    private static void byNumbers() {
        Edge.sentence("THINGS by numbers that are WITH one and aren't finished");
        UnfinishedFair x = Edge.withSkills(3, 0, 0, 0, 0, 0);
        Edge.put(x, Edge.THING, 10, 0, 0);
        Edge.put(x, Edge.THING, 97, 0, 0);
        x.person(0, 1, 1);
        x.years(1);
        dueThing(x, 0, 13, -1, 1);
        dueThing(x, 1, 100, 0, 0);
        duePerson(x, 0, 6, 1);
        UnfinishedFair other = Edge.withSkills(3, 0, 0, 0, 0, 0);
        Edge.put(other, Edge.THING, 97, 0, 0);
        Edge.put(other, Edge.THING, 10, 0, 0);
        other.person(0, 1, 1);
        other.years(1);
        dueThing(other, 0, 100, 0, 0);
        dueThing(other, 1, 13, 0, 0);
        duePerson(other, 0, 2, 1);
        UnfinishedFair left = Edge.withSkills(3, 0, 0, 0, 0, 0);
        for (int i = 0; i < 3; i++) {
            Edge.put(left, Edge.THING, 10, 0, 0);
        }
        left.person(0, 1, 2);
        left.years(1);
        // 1, then 0 and so 4, then 3
        dueThing(left, 0, 13, 0, 0);
        dueThing(left, 1, 13, -1, 1);
        dueThing(left, 2, 13, 0, 0);
        duePerson(left, 0, 3, 0);
        eightGoOn();
    }

    private static void eightGoOn() {
        Edge.sentence("THINGS 0, 1, .. (at most 8)");
        UnfinishedFair x = Edge.allWithSkill(3);
        for (int i = 0; i < 8; i++) {
            Edge.put(x, Edge.LETTER, 97, i % 6, 0);
        }
        Edge.due("all eight", x.years(1), 255);
        for (int p = 0; p < 6; p++) {
            duePerson(x, p, p < 2 ? 8 : 6, p < 2 ? 2 : 1);
        }
    }

    // ---- section 1: (2) the fair

    private static void dustOfAYear() {
        Edge.sentence("DUST is 1 more (999 at most);");
        int[][] dusts = {{0, 1}, {997, 998}, {998, 999}, {999, 999}};
        for (int[] dust : dusts) {
            UnfinishedFair x = Edge.allWithSkill(0);
            Edge.put(x, Edge.THING, 0, -1, dust[0]);
            x.years(1);
            dueThing(x, 0, 0, -1, dust[1]);
        }
        Edge.sentence("THINGS by numbers that are on the common and aren't finished");
        UnfinishedFair x = Edge.allWithSkill(20);
        Edge.put(x, Edge.THING, 100, -1, 5);
        Edge.put(x, Edge.THING, 99, -1, 5);
        x.years(1);
        dueThing(x, 0, 100, -1, 5);
        dueThing(x, 1, 99, 0, 6);
        x.set(1, 1, 100);
        x.years(2);
        dueThing(x, 0, 100, -1, 5);
        dueThing(x, 1, 100, 0, 6);
    }

    /** Whether a thing goes at the fair, where but one has skill. */
    private static void dueAtTheFair(int kind, int done, int dust, int skill, boolean goes) {
        UnfinishedFair x = Edge.allWithSkill(kind == Edge.QUARREL ? 20 : 0);
        x.person(3, 0, skill);
        Edge.put(x, kind, done, -1, dust);
        x.years(1);
        Edge.due("kind " + kind + ", done " + done + ", dust " + dust + ", skill " + skill, x.of(0, 2), goes ? 3 : -1);
    }

    private static void whatIsAsked() {
        Edge.sentence("if that BID is what is ASKED, or more.");
        dueAtTheFair(Edge.THING, 0, 0, 3, false);
        dueAtTheFair(Edge.THING, 0, 0, 4, true);
        dueAtTheFair(Edge.THING, 0, 0, 5, true);
        dueAtTheFair(Edge.BOAT, 0, 0, 6, false);
        dueAtTheFair(Edge.BOAT, 0, 0, 7, true);
        dueAtTheFair(Edge.BOAT, 0, 5, 1, false);
        dueAtTheFair(Edge.BOAT, 0, 6, 1, true);
        dueAtTheFair(Edge.BOAT, 0, 999, 0, false);
        dueAtTheFair(Edge.JERSEY, 70, 0, 3, false);
        dueAtTheFair(Edge.JERSEY, 71, 0, 3, true);
        dueAtTheFair(Edge.JERSEY, 71, 0, 2, false);
        dueAtTheFair(Edge.QUARREL, 0, 0, 20, false);
        dueAtTheFair(Edge.QUARREL, 99, 0, 19, true);
        dueAtTheFair(Edge.LETTER, 69, 0, 6, false);
        dueAtTheFair(Edge.LETTER, 69, 0, 7, true);
        dueAtTheFair(Edge.LETTER, 99, 0, 5, false);
        dueAtTheFair(Edge.LETTER, 99, 0, 6, true);
        Edge.sentence("BRIDGE: as BOAT, and a tenth of DUST.");
        UnfinishedFair x = Edge.allWithSkill(0);
        Edge.put(x, Edge.BRIDGE, 0, -1, 8);
        x.years(1);
        dueThing(x, 0, 0, -1, 9);
        x.years(1);
        dueThing(x, 0, 0, 0, 10);
    }

    private static void whoGetsIt() {
        Edge.sentence("of PEOPLE that have fewer than 2 unfinished THINGS WITH them, the one whose BID is greatest (of several the least) has it WITH it");
        UnfinishedFair x = Edge.withSkills(4, 7, 7, 6, 5, 7);
        for (int i = 0; i < 8; i++) {
            x.thing(Edge.THING, 0);
        }
        Edge.due("nothing is finished", x.years(1), 0);
        int[] with = {1, 1, 2, 2, 5, 5, 3, 3};
        for (int i = 0; i < 8; i++) {
            dueThing(x, i, 0, with[i], 1);
        }
        Edge.sentence("fewer than 2 unfinished THINGS");
        UnfinishedFair three = Edge.withSkills(20, 10, 0, 0, 0, 0);
        Edge.put(three, Edge.THING, 100, 0, 0);
        Edge.put(three, Edge.THING, 100, 0, 0);
        three.thing(Edge.THING, 1);
        three.thing(Edge.THING, 1);
        three.thing(Edge.THING, 1);
        three.years(1);
        dueThing(three, 2, 1, 0, 1);
        dueThing(three, 3, 1, 0, 1);
        dueThing(three, 4, 1, 1, 1);
        UnfinishedFair more = Edge.withSkills(20, 10, 0, 0, 0, 0);
        more.thing(Edge.THING, 1);
        for (int i = 0; i < 3; i++) {
            Edge.put(more, Edge.THING, 5, 0, 0);
        }
        more.years(1);
        dueThing(more, 0, 1, 1, 1);
        UnfinishedFair freed = Edge.withSkills(20, 10, 0, 0, 0, 0);
        freed.thing(Edge.THING, 1);
        Edge.put(freed, Edge.THING, 80, 0, 0);
        Edge.put(freed, Edge.THING, 5, 0, 0);
        freed.years(1);
        dueThing(freed, 0, 1, 0, 1);
        dueThing(freed, 1, 100, 0, 0);
    }

    private static void leftAndAtTheFair() {
        Edge.sentence("(A thing that came to the common in this YEAR is at its fair, too.)");
        UnfinishedFair again = Edge.withSkills(4, 0, 0, 0, 0, 0);
        Edge.put(again, Edge.THING, 10, 0, 50);
        again.person(0, 1, 1);
        again.years(1);
        dueThing(again, 0, 14, 0, 1);
        duePerson(again, 0, 4, 0);
        UnfinishedFair another = Edge.withSkills(4, 5, 0, 0, 0, 0);
        Edge.put(another, Edge.THING, 10, 0, 50);
        another.person(0, 1, 1);
        another.years(1);
        dueThing(another, 0, 14, 1, 1);
        duePerson(another, 0, 4, 0);
        duePerson(another, 1, 4, 0);
        Edge.sentence("BOAT: as THING, less DUST (1 at least).");
        UnfinishedFair boat = Edge.withSkills(6, 0, 0, 0, 0, 0);
        Edge.put(boat, Edge.BOAT, 10, 0, 999);
        boat.person(0, 1, 2);
        boat.years(1);
        dueThing(boat, 0, 13, -1, 1);
        boat.years(1);
        dueThing(boat, 0, 13, 0, 2);
    }

    // ---- promise 12

    private static void years() {
        Edge.sentence("n YEARS go (1 to 60): THINGS that are finished then, as a set.");
        Edge.bounds("years", (x, a) -> x.years(a[0]), new int[] {1}, 0, 1, 60);
        UnfinishedFair x = new UnfinishedFair();
        Edge.due("years(1) of nothing", x.years(1), 0);
        Edge.due("YEAR", x.now(0), 1);
        Edge.due("years(60) of nothing", x.years(60), 0);
        Edge.due("YEAR", x.now(0), 61);
        UnfinishedFair old = one(Edge.THING, 100, 1, 4);
        Edge.due("finished before counts, too", old.years(60), 1);
        Edge.sentence("YEAR is 1 more.");
        Edge.changesOnly(YearsEdgesTest::nothingGoesOn, "years(1)", y -> y.years(1), 128, "year=1");
        Edge.changesOnly(YearsEdgesTest::nothingGoesOn, "years(60)", y -> y.years(60), 128, "year=60");
        lastYear();
    }

    private static UnfinishedFair nothingGoesOn() {
        UnfinishedFair x = Edge.allWithSkill(0);
        x.image();
        for (int i = 0; i < 7; i++) {
            Edge.put(x, Edge.THING, i, -1, 999);
        }
        Edge.put(x, Edge.THING, 100, 2, 3);
        return x;
    }

    private static UnfinishedFair atYear(int year) {
        UnfinishedFair x = new UnfinishedFair();
        x.image();
        for (int left = year; left > 0; left -= 60) {
            x.years(Math.min(60, left));
        }
        x.thing(Edge.QUARREL, 5);
        return x;
    }

    private static void lastYear() {
        Edge.sentence("STATE: YEAR would be above 9999.");
        Edge.changesOnly(() -> atYear(9939), "to 9999", x -> x.years(60), 0, "year=9999", "done 0=64", "dust 0=1", "with 0=0");
        Edge.changesNothing(() -> atYear(9940), "to 10000", x -> x.years(60), Edge.STATE);
        Edge.changesOnly(() -> atYear(9998), "the last", x -> x.years(1), 0, "year=9999", "dust 0=1", "with 0=0");
        Edge.changesNothing(() -> atYear(9998), "two more", x -> x.years(2), Edge.STATE);
        Edge.changesNothing(() -> atYear(9999), "one more", x -> x.years(1), Edge.STATE);
        Edge.sentence("BEYOND. STATE: YEAR would be above 9999.");
        Edge.changesNothing(() -> atYear(9999), "n 0 at the end", x -> x.years(0), Edge.BEYOND);
        Edge.changesNothing(() -> atYear(9999), "n 61 at the end", x -> x.years(61), Edge.BEYOND);
        Edge.changesNothing(() -> atYear(9999), "n lowest at the end", x -> x.years(Edge.LOWEST), Edge.BEYOND);
        Edge.changesNothing(() -> atYear(9999), "n highest at the end", x -> x.years(Edge.HIGHEST), Edge.BEYOND);
        Edge.sentence("n YEARS go on with all as it is; nothing changes.");
        Edge.changesNothing(() -> atYear(9999), "on 100 at the end", x -> x.on(0, 100, 0), 99);
        Edge.changesNothing(() -> atYear(9999), "all() at the end", x -> x.all(), Edge.NONE);
        Edge.changesNothing(() -> atYear(9999), "finished() at the end", x -> x.finished(0), Edge.NONE);
    }

    // ---- promise 13

    private static void now() {
        Edge.sentence("What 0 YEAR, 1 those that are finished, as a set, 2 those that are on the common, as a set, 3 DONE of all together, 4 MADE of all together. BEYOND.");
        Edge.bounds("now", (x, a) -> x.now(a[0]), new int[] {0}, 0, 0, 4);
        int[] busy = {3, 32, 16, 400, 1029};
        int[] none = {0, 0, 0, 0, 0};
        int[] full = {0, 0, 0, 108, 0};
        for (int what = 0; what <= 4; what++) {
            int w = what;
            Edge.changesNothing(Edge::busy, "now(" + what + ")", x -> x.now(w), busy[what]);
            Edge.changesNothing(UnfinishedFair::new, "now(" + what + ") of nothing", x -> x.now(w), none[what]);
            Edge.changesNothing(Edge::full, "now(" + what + ") of all", x -> x.now(w), full[what]);
        }
        UnfinishedFair x = Edge.full();
        for (int i = 0; i < 8; i++) {
            x.set(i, 1, i == 4 ? 99 : 100);
            x.set(i, 2, i == 7 ? 5 : -1);
        }
        Edge.due("99 isn't finished", x.now(1), 239);
        Edge.due("5 isn't the common, and -1 is", x.now(2), 127);
        x.set(4, 1, 100);
        x.set(7, 2, -1);
        Edge.due("all finished", x.now(1), 255);
        Edge.due("all on the common", x.now(2), 255);
        Edge.due("most that can be done", x.now(3), 800);
        for (int p = 0; p < 6; p++) {
            x.person(p, 2, 999);
        }
        Edge.due("most that can be made", x.now(4), 5994);
        for (int i = 0; i < 8; i++) {
            x.set(i, 1, 0);
        }
        Edge.due("least that can be done", x.now(3), 0);
        Edge.due("none finished", x.now(1), 0);
    }

    // ---- promises 14 and 15

    private static void on() {
        Edge.Call on = (x, a) -> x.on(a[0], a[1], a[2]);
        Edge.sentence("DONE (what 0), WITH (1; -1), DUST (2) of a THING ON n YEARS (0 to 100). BEYOND.");
        Edge.bounds("on", on, new int[] {0, 3, 0}, 0, 0, 5);
        Edge.bounds("on", on, new int[] {0, 3, 0}, 1, 0, 100);
        Edge.bounds("on", on, new int[] {0, 3, 0}, 2, 0, 2);
        Edge.sentence("n YEARS go on with all as it is; nothing changes.");
        for (int n : new int[] {0, 1, 2, 59, 60, 99, 100}) {
            UnfinishedFair then = Edge.busy();
            for (int left = n; left > 0; left -= 60) {
                then.years(Math.min(60, left));
            }
            for (int i = 0; i <= 5; i++) {
                for (int what = 0; what <= 2; what++) {
                    int[] a = {i, n, what};
                    Edge.changesNothing(Edge::busy, "on(" + i + ", " + n + ", " + what + ")", x -> on.on(x, a),
                        then.of(i, what + 1));
                }
            }
        }
        Edge.sentence("DONE (what 0), WITH (1; -1), DUST (2) of a THING ON n YEARS (0 to 100). BEYOND.");
        // how far a quarrel is done, and the dust of what nobody takes, tell the year
        UnfinishedFair x = Edge.allWithSkill(0);
        Edge.put(x, Edge.QUARREL, 0, 3, 0);
        Edge.put(x, Edge.THING, 0, -1, 899);
        Edge.due("done on 0", x.on(0, 0, 0), 0);
        Edge.due("done on 1", x.on(0, 1, 0), 1);
        Edge.due("done on 99", x.on(0, 99, 0), 99);
        Edge.due("done on 100", x.on(0, 100, 0), 99);
        Edge.due("dust on 0", x.on(1, 0, 2), 899);
        Edge.due("dust on 99", x.on(1, 99, 2), 998);
        Edge.due("dust on 100", x.on(1, 100, 2), 999);
        Edge.due("with on 100", x.on(1, 100, 1), -1);
    }

    private static void then() {
        Edge.Call then = (x, a) -> x.then(a[0], a[1], a[2]);
        Edge.sentence("ZEAL (what 0), MADE (1) of one ON n YEARS (0 to 100). BEYOND.");
        Edge.bounds("then", then, new int[] {0, 3, 0}, 0, 0, 5);
        Edge.bounds("then", then, new int[] {0, 3, 0}, 1, 0, 100);
        Edge.bounds("then", then, new int[] {0, 3, 0}, 2, 0, 1);
        for (int n : new int[] {0, 1, 2, 60, 100}) {
            UnfinishedFair later = Edge.busy();
            for (int left = n; left > 0; left -= 60) {
                later.years(Math.min(60, left));
            }
            for (int p = 0; p <= 5; p++) {
                for (int what = 0; what <= 1; what++) {
                    int[] a = {p, n, what};
                    Edge.changesNothing(Edge::busy, "then(" + p + ", " + n + ", " + what + ")", x -> then.on(x, a),
                        later.personOf(p, what + 1));
                }
            }
        }
        UnfinishedFair x = slowBridge(62, 0);
        x.set(0, 2, 0);
        Edge.due("made on 99", x.then(0, 99, 1), 0);
        Edge.due("made on 100", x.then(0, 100, 1), 1);
        x.set(0, 1, 61);
        Edge.due("made on 100, but for one", x.then(0, 100, 1), 0);
    }

    // ---- promises 16 to 18

    /**
     * Nobody has skill, and there is a bridge: it is taken when its dust is 10, goes on by 2 in each
     * of the next two years, and lies again for ten. From dust 9 it goes on in the years 2, 3, 13,
     * 14, .. 200, 201; given to one at once, in the years 1, 2, 12, 13, .. 100, 101.
     */
    private static UnfinishedFair slowBridge(int done, int dust) {
        UnfinishedFair x = Edge.allWithSkill(0);
        Edge.put(x, Edge.BRIDGE, done, -1, dust);
        return x;
    }

    private static void finished() {
        Edge.Call finished = (x, a) -> x.finished(a[0]);
        Edge.sentence("In how many YEARS (0 to 200) ON a THING is finished first. BEYOND. NONE.");
        Edge.bounds("finished", finished, new int[] {0}, 0, 0, 5);
        Edge.changesNothing(Edge::busy, "finished(5), which is", x -> x.finished(5), 0);
        Edge.changesNothing(Edge::busy, "a quarrel", x -> x.finished(3), Edge.NONE);
        Edge.changesNothing(() -> one(Edge.THING, 80, 20, 4), "in 1", x -> x.finished(0), 1);
        Edge.changesNothing(() -> one(Edge.THING, 79, 20, 4), "in 2", x -> x.finished(0), 2);
        Edge.changesNothing(() -> slowBridge(30, 9), "in 189", x -> x.finished(0), 189);
        Edge.changesNothing(() -> slowBridge(26, 9), "in 200", x -> x.finished(0), 200);
        Edge.changesNothing(() -> slowBridge(25, 9), "in 201", x -> x.finished(0), Edge.NONE);
        UnfinishedFair x = slowBridge(25, 9);
        x.years(1);
        Edge.due("in 201, a year later", x.finished(0), 200);
        Edge.due("of nothing", new UnfinishedFair().finished(0), Edge.BEYOND);
    }

    /** One has its hands full with a quarrel and a bridge, until the bridge is finished. */
    private static UnfinishedFair lateBoat(int bridge, int zeal) {
        UnfinishedFair x = Edge.withSkills(1, 0, 0, 1, 0, 0);
        x.person(2, 1, zeal);
        Edge.put(x, Edge.QUARREL, 24, 5, 1);
        Edge.put(x, Edge.BRIDGE, bridge, 0, 0);
        Edge.put(x, Edge.BOAT, 9, 2, 2);
        Edge.put(x, Edge.QUARREL, 8, 0, 4);
        return x;
    }

    private static void comes() {
        Edge.Call comes = (x, a) -> x.comes(a[0], a[1]);
        Edge.sentence("In how many YEARS (0 to 200) ON a THING is WITH one first. BEYOND. NONE.");
        Edge.bounds("comes", comes, new int[] {0, 0}, 0, 0, 5);
        Edge.bounds("comes", comes, new int[] {0, 0}, 1, 0, 5);
        Edge.changesNothing(Edge::busy, "with it now", x -> x.comes(0, 2), 0);
        Edge.changesNothing(Edge::busy, "a finished one", x -> x.comes(5, 1), 0);
        Edge.changesNothing(Edge::busy, "a finished one to another", x -> x.comes(5, 0), Edge.NONE);
        Edge.changesNothing(Edge::busy, "at the next fair", x -> x.comes(4, 5), 1);
        Edge.changesNothing(() -> lateBoat(3, 4), "in 200", x -> x.comes(2, 0), 200);
        Edge.changesNothing(() -> lateBoat(0, 5), "in 201", x -> x.comes(2, 0), Edge.NONE);
        UnfinishedFair x = lateBoat(0, 5);
        x.years(1);
        Edge.due("in 201, a year later", x.comes(2, 0), 200);
        Edge.due("of nothing", new UnfinishedFair().comes(0, 0), Edge.BEYOND);
        Edge.sentence("is WITH one first.");
        UnfinishedFair twice = Edge.withSkills(0, 4, 0, 0, 0, 0);
        Edge.put(twice, Edge.BOAT, 0, 1, 0);
        twice.person(1, 1, 2);
        Edge.due("now, and again later", twice.comes(0, 1), 0);
        twice.years(1);
        Edge.due("left", twice.of(0, 2), -1);
        Edge.due("taken again", twice.comes(0, 1), 3);
    }

    private static void all() {
        Edge.sentence("In how many YEARS (0 to 200) ON all are finished first. NONE.");
        Edge.changesNothing(UnfinishedFair::new, "nothing", x -> x.all(), 0);
        Edge.changesNothing(YearsEdgesTest::allFinished, "all finished", x -> x.all(), 0);
        Edge.changesNothing(Edge::busy, "with a quarrel", x -> x.all(), Edge.NONE);
        Edge.changesNothing(() -> slowBridge(26, 9), "in 200", x -> x.all(), 200);
        Edge.changesNothing(() -> slowBridge(25, 9), "in 201", x -> x.all(), Edge.NONE);
        for (int last : new int[] {0, 7}) {
            UnfinishedFair x = allFinished();
            x.set(last, 1, 99);
            x.set(last, 2, 3);
            Edge.due("all but " + last, x.all(), 1);
        }
    }

    private static UnfinishedFair allFinished() {
        UnfinishedFair x = Edge.full();
        for (int i = 0; i < 8; i++) {
            x.set(i, 1, 100);
        }
        return x;
    }

    public static void main(String[] args) {
        goesOnInAYear();
        finishing();
        tiring();
        byNumbers();
        dustOfAYear();
        whatIsAsked();
        whoGetsIt();
        leftAndAtTheFair();
        years();
        now();
        on();
        then();
        finished();
        comes();
        all();
        Edge.end();
    }
}
