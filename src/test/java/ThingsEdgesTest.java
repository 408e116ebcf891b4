/** The edges that the document names for a new object, people, things and kinds (promises 1 to 11). */
public final class ThingsEdgesTest {
    private static final int[] UP_TO_WHAT = {20, 9, 999};
    private static final String[] OF_PEOPLE = {"skill ", "zeal ", "made "};

    // ---- promise 1

    private static void newObject() {
        UnfinishedFair x = new UnfinishedFair();
        Edge.sentence("No THINGS; THE TAPE is empty, no image is kept.");
        Edge.due("count(0)", x.count(0), 0);
        Edge.due("count(1)", x.count(1), 0);
        Edge.due("count(2)", x.count(2), 0);
        Edge.due("count(3)", x.count(3), 0);
        Edge.due("now(1)", x.now(1), 0);
        Edge.due("now(2)", x.now(2), 0);
        Edge.due("now(3)", x.now(3), 0);
        Edge.due("wipe()", x.wipe(), 0);
        Edge.due("tear()", x.tear(), 0);
        Edge.changesNothing(UnfinishedFair::new, "of(0, 0)", y -> y.of(0, 0), Edge.BEYOND);
        Edge.changesNothing(UnfinishedFair::new, "undo()", y -> y.undo(), Edge.NONE);
        Edge.sentence("YEAR: 0 at first (9999 at most).");
        Edge.due("now(0)", x.now(0), 0);
        Edge.sentence("SKILL (0 to 20; 5 at first), ZEAL (0 to 9; 4 at first), MADE (things finished; 0 at first, held to 999).");
        int[] first = {5, 4, 0, 0, 0};
        for (int p = 0; p <= 5; p++) {
            for (int what = 0; what <= 4; what++) {
                Edge.due("personOf(" + p + ", " + what + ")", x.personOf(p, what), first[what]);
            }
        }
        Edge.sentence("or MISSING (at first).");
        for (int s = 0; s <= 3; s++) {
            int sheet = s;
            Edge.changesNothing(UnfinishedFair::new, "write to " + s, y -> y.write(sheet, 0, 1), Edge.MISSING);
        }
        Edge.sentence("How many acts answered a finding ever");
        for (int which = -1; which <= 6; which++) {
            Edge.due("status(" + which + ")", x.status(which), 0);
        }
        objectsShareNothing();
    }

    private static void objectsShareNothing() {
        Edge.sentence("No THINGS; THE TAPE is empty, no image is kept.");
        UnfinishedFair before = new UnfinishedFair();
        UnfinishedFair busy = Edge.busy();
        UnfinishedFair after = new UnfinishedFair();
        busy.years(5);
        for (UnfinishedFair x : new UnfinishedFair[] {before, after}) {
            Edge.due("another's things", x.count(0), 0);
            Edge.due("another's tape", x.count(1), 0);
            Edge.due("another's year", x.now(0), 0);
            Edge.due("another's skill", x.personOf(0, 0), 5);
            Edge.due("another's image", x.tear(), 0);
            Edge.due("another's findings", x.status(-1), 0);
            Edge.due("another's sheet", x.lays(0), Edge.MISSING);
        }
    }

    // ---- promises 2 and 3

    private static void person() {
        Edge.Call person = (x, a) -> x.person(a[0], a[1], a[2]);
        Edge.sentence("PEOPLE 0 to 5");
        Edge.bounds("person", person, new int[] {0, 0, 7}, 0, 0, 5);
        Edge.sentence("SKILL (what 0), ZEAL (1), MADE (2) of one becomes v: what it was. BEYOND.");
        Edge.bounds("person", person, new int[] {3, 0, 7}, 1, 0, 2);
        Edge.sentence("SKILL (0 to 20; 5 at first)");
        Edge.bounds("person", person, new int[] {3, 0, 0}, 2, 0, 20);
        Edge.sentence("ZEAL (0 to 9; 4 at first)");
        Edge.bounds("person", person, new int[] {3, 1, 0}, 2, 0, 9);
        Edge.sentence("MADE (things finished; 0 at first, held to 999)");
        Edge.bounds("person", person, new int[] {3, 2, 0}, 2, 0, 999);
        Edge.sentence("SKILL (what 0), ZEAL (1), MADE (2) of one becomes v: what it was. BEYOND.");
        int[] was = {12, 2, 4};
        for (int what = 0; what <= 2; what++) {
            for (int v : new int[] {0, UP_TO_WHAT[what]}) {
                int w = what;
                Edge.changesOnly(Edge::busy, "person(3, " + what + ", " + v + ")", x -> x.person(3, w, v), was[what],
                    OF_PEOPLE[what] + "3=" + v);
            }
        }
        for (int p : new int[] {0, 5}) {
            Edge.changesOnly(UnfinishedFair::new, "person(" + p + ", 0, 20)", x -> x.person(p, 0, 20), 5,
                "skill " + p + "=20", "kept skill " + p + "=20", "told skill " + p + "=20");
        }
    }

    private static void personOf() {
        Edge.Call personOf = (x, a) -> x.personOf(a[0], a[1]);
        Edge.sentence("PEOPLE 0 to 5");
        Edge.bounds("personOf", personOf, new int[] {0, 0}, 0, 0, 5);
        Edge.sentence("Of one: what 0 SKILL, 1 ZEAL, 2 MADE, 3 THINGS that are WITH it, as a set, 4 how many of these aren't finished. BEYOND.");
        Edge.bounds("personOf", personOf, new int[] {0, 0}, 1, 0, 4);
        int[][] due = {{6, 8, 1, 12, 2}, {9, 5, 17, 32, 0}, {3, 3, 0, 1, 1}, {12, 2, 4, 2, 1}, {0, 9, 8, 0, 0},
            {20, 1, 999, 0, 0}};
        for (int p = 0; p <= 5; p++) {
            for (int what = 0; what <= 4; what++) {
                int[] a = {p, what};
                Edge.changesNothing(Edge::busy, "personOf(" + p + ", " + what + ")", x -> personOf.on(x, a), due[p][what]);
            }
        }
        Edge.sentence("Sets are told by bits.");
        UnfinishedFair x = Edge.full();
        Edge.due("all eight", x.personOf(2, 3), 255);
        Edge.due("all eight unfinished", x.personOf(2, 4), 8);
        Edge.due("none", x.personOf(1, 3), 0);
        x.set(7, 2, 1);
        Edge.due("the last", x.personOf(1, 3), 128);
        x.set(0, 1, 100);
        Edge.due("a finished one is with it", x.personOf(2, 3), 127);
        Edge.due("a finished one isn't counted", x.personOf(2, 4), 6);
        x.set(7, 1, 99);
        Edge.due("99 is unfinished", x.personOf(1, 4), 1);
    }

    // ---- promise 4

    private static void thing() {
        Edge.Call thing = (x, a) -> x.thing(a[0], a[1]);
        Edge.sentence("A new THING on the common, so far DONE (0 to 99): its number. BEYOND: kind, done. FULL.");
        Edge.bounds("thing", thing, new int[] {0, 50}, 0, 0, 5);
        Edge.bounds("thing", thing, new int[] {0, 50}, 1, 0, 99);
        Edge.changesOnly(Edge::busy, "thing(5, 99)", x -> x.thing(5, 99), 6,
            "things=7", "kind 6=5", "done 6=99", "with 6=-1", "dust 6=0");
        Edge.changesOnly(Edge::busy, "thing(0, 0)", x -> x.thing(0, 0), 6,
            "things=7", "kind 6=0", "done 6=0", "with 6=-1", "dust 6=0");
        Edge.sentence("THINGS 0, 1, .. (at most 8)");
        UnfinishedFair x = new UnfinishedFair();
        for (int i = 0; i < 8; i++) {
            Edge.due("of(" + i + ", 0) before it is", x.of(i, 0), Edge.BEYOND);
            Edge.due("thing " + i, x.thing(BOATS[i], i), i);
            Edge.due("its kind", x.of(i, 0), BOATS[i]);
        }
        Edge.due("a 9th", x.thing(0, 0), Edge.FULL);
        Edge.due("still eight", x.count(0), 8);
        Edge.changesNothing(Edge::full, "a 9th", y -> y.thing(0, 0), Edge.FULL);
        Edge.sentence("BEYOND: kind, done. FULL.");
        Edge.changesNothing(Edge::full, "kind 6 before FULL", y -> y.thing(6, 0), Edge.BEYOND);
        Edge.changesNothing(Edge::full, "kind -1 before FULL", y -> y.thing(-1, 0), Edge.BEYOND);
        Edge.changesNothing(Edge::full, "done 100 before FULL", y -> y.thing(0, 100), Edge.BEYOND);
        Edge.changesNothing(Edge::full, "done -1 before FULL", y -> y.thing(0, -1), Edge.BEYOND);
        roomAgain();
    }

    private static final int[] BOATS = {1, 1, 1, 1, 5, 4, 3, 2};

    private static void roomAgain() {
        Edge.sentence("It becomes what was kept latest (which stays): how many THINGS.");
        UnfinishedFair x = Edge.full();
        Edge.due("undo() to none", x.undo(), 0);
        Edge.due("thing 0 is gone", x.of(0, 0), Edge.BEYOND);
        Edge.due("a new one is the first", x.thing(Edge.JERSEY, 7), 0);
        Edge.due("new, on the common", x.of(0, 2), -1);
        Edge.due("new, without dust", x.of(0, 3), 0);
        Edge.due("thing 1 is gone", x.of(1, 0), Edge.BEYOND);
    }

    // ---- promises 5 and 6, and what the kinds are

    private static void of() {
        Edge.Call of = (x, a) -> x.of(a[0], a[1]);
        Edge.sentence("Of a THING: what 0 KIND, 1 DONE, 2 WITH (-1), 3 DUST, 4 TIRES, 5 ASKED. BEYOND.");
        Edge.bounds("of", of, new int[] {0, 0}, 0, 0, 5);
        Edge.bounds("of", of, new int[] {0, 0}, 1, 0, 5);
        int[][] due = {{5, 40, 2, 3, 0, 12}, {1, 50, 3, 4, 2, 4}, {2, 60, 0, 2, 1, 8}, {3, 70, 0, 1, 0, 1},
            {4, 80, -1, 31, 2, 1}, {0, 100, 1, 5, 1, 8}};
        for (int i = 0; i <= 5; i++) {
            for (int what = 0; what <= 5; what++) {
                int[] a = {i, what};
                Edge.changesNothing(Edge::busy, "of(" + i + ", " + what + ")", x -> of.on(x, a), due[i][what]);
            }
        }
        Edge.sentence("THINGS 0, 1, .. (at most 8)");
        UnfinishedFair x = Edge.full();
        Edge.due("of(7, 1)", x.of(7, 1), 17);
        Edge.due("of(8, 1)", x.of(8, 1), Edge.BEYOND);
    }

    private static void by() {
        Edge.Call by = (x, a) -> x.by(a[0], a[1], a[2]);
        Edge.sentence("What 0 it GOES ON in a year WITH one, 1 one would BID for it. BEYOND.");
        Edge.bounds("by", by, new int[] {0, 0, 0}, 0, 0, 5);
        Edge.bounds("by", by, new int[] {0, 0, 0}, 1, 0, 5);
        Edge.bounds("by", by, new int[] {0, 0, 0}, 2, 0, 1);
        int[][] due = {{6, 3, 6, 1, 5, 6}, {12, 6, 12, 14, 9, 12}};
        for (int i = 0; i <= 5; i++) {
            for (int what = 0; what <= 1; what++) {
                int[] a = {i, 0, what};
                int kind = new int[] {Edge.LETTER, Edge.BOAT, Edge.JERSEY, Edge.QUARREL, Edge.BRIDGE, Edge.THING}[i];
                int extra = i == 0 && what == 0 ? 3 : 0;
                Edge.changesNothing(Edge::busy, "by(" + i + ", 0, " + what + ")", x -> by.on(x, a), due[what][kind] + extra);
            }
        }
    }

    /** What a thing of a kind answers to by() with one of a skill. */
    private static void dueBy(int what, int kind, int skill, int done, int dust, int want) {
        UnfinishedFair x = Edge.allWithSkill(skill == 20 ? 0 : 20);
        x.person(4, 0, skill);
        Edge.put(x, kind, done, -1, dust);
        Edge.due("kind " + kind + ", skill " + skill + ", done " + done + ", dust " + dust, x.by(0, 4, what), want);
    }

    private static void dueOf(int what, int kind, int done, int dust, int want) {
        UnfinishedFair x = new UnfinishedFair();
        Edge.put(x, kind, done, -1, dust);
        Edge.due("kind " + kind + ", done " + done + ", dust " + dust, x.of(0, what), want);
    }

    private static void goesOn() {
        Edge.sentence("THING: s.");
        dueBy(0, Edge.THING, 0, 0, 0, 0);
        dueBy(0, Edge.THING, 20, 99, 999, 20);
        Edge.sentence("BOAT: half of as THING.");
        int[][] halves = {{0, 0}, {1, 0}, {2, 1}, {3, 1}, {19, 9}, {20, 10}};
        for (int[] half : halves) {
            dueBy(0, Edge.BOAT, half[0], 50, 11, half[1]);
        }
        Edge.sentence("JERSEY: as THING, and 3, if d is below 50.");
        dueBy(0, Edge.JERSEY, 0, 0, 0, 3);
        dueBy(0, Edge.JERSEY, 20, 49, 999, 23);
        dueBy(0, Edge.JERSEY, 20, 50, 999, 20);
        dueBy(0, Edge.JERSEY, 0, 100, 0, 0);
        Edge.sentence("QUARREL: 1, but 0, if d is 99.");
        dueBy(0, Edge.QUARREL, 20, 0, 0, 1);
        dueBy(0, Edge.QUARREL, 0, 98, 0, 1);
        dueBy(0, Edge.QUARREL, 20, 99, 0, 0);
        dueBy(0, Edge.QUARREL, 20, 100, 0, 1);
        Edge.sentence("BRIDGE: as BOAT, and 2.");
        for (int[] half : halves) {
            dueBy(0, Edge.BRIDGE, half[0], 50, 11, half[1] + 2);
        }
        Edge.sentence("LETTER: as JERSEY, twice that, if DUST is above 10.");
        dueBy(0, Edge.LETTER, 7, 49, 10, 10);
        dueBy(0, Edge.LETTER, 7, 49, 11, 20);
        dueBy(0, Edge.LETTER, 7, 50, 10, 7);
        dueBy(0, Edge.LETTER, 7, 50, 11, 14);
        dueBy(0, Edge.LETTER, 20, 49, 999, 46);
        dueBy(0, Edge.LETTER, 0, 50, 999, 0);
        dueBy(0, Edge.LETTER, 0, 0, 0, 3);
    }

    private static void tires() {
        Edge.sentence("THING: 1. BOAT: as THING, and 1. JERSEY: as THING. QUARREL: 0. BRIDGE: as BOAT. LETTER: as JERSEY, less 1.");
        int[] due = {1, 2, 1, 0, 2, 0};
        for (int kind = 0; kind <= 5; kind++) {
            dueOf(4, kind, 0, 0, due[kind]);
            dueOf(4, kind, 100, 999, due[kind]);
        }
    }

    private static void bid() {
        Edge.sentence("THING: twice s. BOAT: s.");
        dueBy(1, Edge.THING, 0, 71, 999, 0);
        dueBy(1, Edge.THING, 20, 71, 999, 40);
        dueBy(1, Edge.BOAT, 0, 71, 999, 0);
        dueBy(1, Edge.BOAT, 20, 71, 999, 20);
        Edge.sentence("JERSEY: as THING, and s, if d is above 70.");
        dueBy(1, Edge.JERSEY, 20, 70, 999, 40);
        dueBy(1, Edge.JERSEY, 20, 71, 0, 60);
        dueBy(1, Edge.JERSEY, 1, 100, 0, 3);
        Edge.sentence("QUARREL: 20 less s.");
        dueBy(1, Edge.QUARREL, 0, 0, 0, 20);
        dueBy(1, Edge.QUARREL, 1, 99, 0, 19);
        dueBy(1, Edge.QUARREL, 20, 0, 0, 0);
        Edge.sentence("BRIDGE: as BOAT, and a tenth of DUST. LETTER: as JERSEY.");
        dueBy(1, Edge.BRIDGE, 0, 0, 0, 0);
        dueBy(1, Edge.BRIDGE, 3, 0, 9, 3);
        dueBy(1, Edge.BRIDGE, 3, 0, 10, 4);
        dueBy(1, Edge.BRIDGE, 3, 0, 19, 4);
        dueBy(1, Edge.BRIDGE, 20, 0, 999, 119);
        dueBy(1, Edge.LETTER, 20, 70, 999, 40);
        dueBy(1, Edge.LETTER, 20, 71, 999, 60);
    }

    private static void asked() {
        Edge.sentence("ASKED (the least BID for which it goes): THING: 8.");
        dueOf(5, Edge.THING, 0, 0, 8);
        dueOf(5, Edge.THING, 99, 999, 8);
        Edge.sentence("BOAT: as THING, less DUST (1 at least).");
        int[][] boats = {{0, 8}, {1, 7}, {6, 2}, {7, 1}, {8, 1}, {9, 1}, {999, 1}};
        for (int[] boat : boats) {
            dueOf(5, Edge.BOAT, 99, boat[0], boat[1]);
        }
        Edge.sentence("JERSEY: as THING. QUARREL: 1. BRIDGE: as BOAT.");
        dueOf(5, Edge.JERSEY, 99, 999, 8);
        dueOf(5, Edge.QUARREL, 0, 0, 1);
        dueOf(5, Edge.QUARREL, 99, 999, 1);
        for (int[] boat : boats) {
            dueOf(5, Edge.BRIDGE, 99, boat[0], boat[1]);
        }
        Edge.sentence("LETTER: as JERSEY, and a tenth of d.");
        int[][] letters = {{0, 8}, {9, 8}, {10, 9}, {19, 9}, {90, 17}, {99, 17}, {100, 18}};
        for (int[] letter : letters) {
            dueOf(5, Edge.LETTER, letter[0], 999, letter[1]);
        }
    }

    private static void quotients() {
        Edge.sentence("Quotients are cut.");
        for (int skill = 0; skill <= 20; skill++) {
            int half = 0;
            while (2 * (half + 1) <= skill) {
                half++;
            }
            dueBy(0, Edge.BOAT, skill, 0, 0, half);
        }
        for (int dust : new int[] {0, 1, 9, 10, 11, 99, 100, 109, 989, 990, 998, 999}) {
            dueBy(1, Edge.BRIDGE, 1, 0, dust, 1 + (dust - dust % 10) / 10);
        }
        for (int done = 0; done <= 100; done++) {
            dueOf(5, Edge.LETTER, done, 0, 8 + (done - done % 10) / 10);
        }
    }

    private static void howFar() {
        Edge.sentence("each DONE (0 to 100 hundredths; 100: finished), WITH one of PEOPLE, or on the common (-1; at first)");
        for (int done : new int[] {0, 1, 98, 99, 100}) {
            UnfinishedFair x = Edge.full();
            x.set(7, 1, done);
            Edge.due("finished at " + done, x.now(1), done == 100 ? 128 : 0);
            Edge.due("counted at " + done, x.count(2), done == 100 ? 1 : 0);
            Edge.due("unfinished at " + done, x.personOf(2, 4), done == 100 ? 7 : 8);
            Edge.due("left at " + done, x.leave(7), done == 100 ? Edge.STATE : 2);
        }
        for (int with = -1; with <= 5; with++) {
            UnfinishedFair x = Edge.full();
            x.set(7, 2, with);
            Edge.due("with " + with, x.of(7, 2), with);
            Edge.due("on the common, with " + with, x.now(2), with == -1 ? 128 : 0);
            for (int p = 0; p <= 5; p++) {
                Edge.due(p + " has, with " + with, x.personOf(p, 3), (p == 2 ? 127 : 0) + (p == with ? 128 : 0));
            }
        }
    }

    // ---- promises 7 to 9

    private static void set() {
        Edge.Call set = (x, a) -> x.set(a[0], a[1], a[2]);
        Edge.sentence("DONE (what 1; 0 to 100), WITH (2; -1 to 5), DUST (3) of a THING becomes v: what it was. BEYOND.");
        Edge.bounds("set", set, new int[] {0, 1, 0}, 0, 0, 5);
        Edge.bounds("set", set, new int[] {2, 0, 1}, 1, 1, 3);
        Edge.bounds("set", set, new int[] {2, 1, 0}, 2, 0, 100);
        Edge.bounds("set", set, new int[] {2, 2, 0}, 2, -1, 5);
        Edge.sentence("with DUST (years that it lay there; 0 to 999; 0 at first).");
        Edge.bounds("set", set, new int[] {2, 3, 0}, 2, 0, 999);
        Edge.sentence("DONE (what 1; 0 to 100), WITH (2; -1 to 5), DUST (3) of a THING becomes v: what it was. BEYOND.");
        String[] named = {"", "done ", "with ", "dust "};
        int[][] ends = {{}, {0, 100}, {-1, 5}, {0, 999}};
        int[] was = {Edge.JERSEY, 60, 0, 2};
        for (int what = 1; what <= 3; what++) {
            for (int v : ends[what]) {
                int w = what;
                Edge.changesOnly(Edge::busy, "set(2, " + what + ", " + v + ")", x -> x.set(2, w, v), was[what],
                    named[what] + "2=" + v);
            }
        }
        Edge.changesOnly(Edge::busy, "a finished one is taken up", x -> x.set(5, 1, 99), 100, "done 5=99");
        Edge.changesOnly(Edge::busy, "a third for one", x -> x.set(1, 2, 0), 3, "with 1=0");
    }

    private static void turn() {
        Edge.Call turn = (x, a) -> x.turn(a[0], a[1]);
        Edge.sentence("A THING becomes one of another KIND: what it was. BEYOND.");
        Edge.bounds("turn", turn, new int[] {0, 0}, 0, 0, 5);
        Edge.bounds("turn", turn, new int[] {2, 0}, 1, 0, 5);
        for (int kind : new int[] {0, 5}) {
            Edge.changesOnly(Edge::busy, "turn(2, " + kind + ")", x -> x.turn(2, kind), Edge.JERSEY, "kind 2=" + kind);
        }
        Edge.changesNothing(Edge::busy, "to what it is", x -> x.turn(2, Edge.JERSEY), Edge.JERSEY);
        Edge.changesOnly(Edge::busy, "a finished one", x -> x.turn(5, Edge.QUARREL), Edge.THING, "kind 5=3");
    }

    private static void as() {
        Edge.Call as = (x, a) -> x.as(a[0], a[1]);
        Edge.sentence("BEYOND: no such one, kind. KIND: it isn't of that kind, nor of one under it.");
        Edge.bounds("as", as, new int[] {0, 0}, 0, 0, 5);
        Edge.bounds("as", as, new int[] {0, 0}, 1, 0, 5);
        Edge.sentence("KINDS: 0 THING, 1 BOAT under THING, 2 JERSEY under THING, 3 QUARREL under THING, 4 BRIDGE under BOAT, 5 LETTER under JERSEY;");
        // the bits of the kinds as which one of each kind may be taken
        int[] kinds = {1, 3, 5, 9, 19, 37};
        for (int kind = 0; kind <= 5; kind++) {
            for (int asked = 0; asked <= 5; asked++) {
                int k = kind;
                int[] a = {2, asked};
                int want = (kinds[kind] >> asked & 1) == 1 ? 60 : Edge.KIND;
                Edge.changesNothing(() -> turned(k), "one of kind " + kind + " as " + asked, x -> as.on(x, a), want);
            }
        }
        Edge.sentence("A THING as one of a kind: DONE.");
        for (int done : new int[] {0, 100}) {
            UnfinishedFair x = turned(Edge.BRIDGE);
            x.set(2, 1, done);
            Edge.due("done " + done, x.as(2, Edge.BOAT), done);
        }
    }

    private static UnfinishedFair turned(int kind) {
        UnfinishedFair x = Edge.busy();
        x.turn(2, kind);
        return x;
    }

    // ---- promises 10 and 11

    private static void leave() {
        Edge.Call leave = (x, a) -> x.leave(a[0]);
        Edge.sentence("A THING is left off: WITH whom it was (on the common then, DUST 0; ZEAL of that one is 4).");
        Edge.bounds("leave", leave, new int[] {0}, 0, 0, 5);
        Edge.changesOnly(Edge::busy, "leave(0)", x -> x.leave(0), 2, "with 0=-1", "dust 0=0", "zeal 2=4");
        Edge.changesOnly(Edge::busy, "leave(3)", x -> x.leave(3), 0, "with 3=-1", "dust 3=0", "zeal 0=4");
        for (int zeal : new int[] {0, 9}) {
            UnfinishedFair x = Edge.busy();
            x.person(2, 1, zeal);
            x.leave(0);
            Edge.due("zeal from " + zeal, x.personOf(2, 1), 4);
        }
        for (int p : new int[] {0, 5}) {
            UnfinishedFair x = Edge.busy();
            x.set(0, 2, p);
            Edge.due("left by " + p, x.leave(0), p);
        }
        Edge.sentence("STATE: it is on the common, or finished.");
        Edge.changesNothing(Edge::busy, "on the common", x -> x.leave(4), Edge.STATE);
        Edge.changesNothing(Edge::busy, "finished", x -> x.leave(5), Edge.STATE);
        Edge.changesNothing(ThingsEdgesTest::finishedOnTheCommon, "both", x -> x.leave(4), Edge.STATE);
        UnfinishedFair x = Edge.busy();
        x.set(5, 1, 99);
        Edge.due("99 isn't finished", x.leave(5), 1);
        Edge.due("twice", x.leave(5), Edge.STATE);
        Edge.sentence("BEYOND. STATE: it is on the common, or finished.");
        Edge.due("none at all", new UnfinishedFair().leave(0), Edge.BEYOND);
    }

    private static UnfinishedFair finishedOnTheCommon() {
        UnfinishedFair x = Edge.busy();
        x.set(4, 1, 100);
        return x;
    }

    private static void goesTo() {
        Edge.Call goesTo = (x, a) -> x.goesTo(a[0]);
        Edge.sentence("Who would get a THING, were the fair now (DUST as it is), it alone there. BEYOND.");
        Edge.bounds("goesTo", goesTo, new int[] {4}, 0, 0, 5);
        Edge.changesNothing(Edge::busy, "goesTo(4)", x -> x.goesTo(4), 5);
        Edge.sentence("STATE: it isn't on the common, or is finished. NONE.");
        Edge.changesNothing(Edge::busy, "with one", x -> x.goesTo(0), Edge.STATE);
        Edge.changesNothing(Edge::busy, "finished, with one", x -> x.goesTo(5), Edge.STATE);
        Edge.changesNothing(ThingsEdgesTest::finishedOnTheCommon, "finished", x -> x.goesTo(4), Edge.STATE);
        Edge.changesNothing(() -> onlyBids(7), "bid 7", x -> x.goesTo(0), Edge.NONE);
        Edge.changesNothing(() -> onlyBids(8), "bid 8", x -> x.goesTo(0), 3);
        Edge.sentence("(DUST as it is)");
        UnfinishedFair x = onlyBids(5);
        x.set(0, 3, 2);
        Edge.due("asks 6", x.goesTo(0), Edge.NONE);
        Edge.due("in a year it asks 5", x.on(0, 1, 1), 3);
        Edge.sentence("it alone there.");
        UnfinishedFair two = Edge.withSkills(20, 19, 0, 0, 0, 0);
        Edge.put(two, Edge.THING, 0, 0, 0);
        two.thing(Edge.THING, 0);
        two.thing(Edge.THING, 0);
        Edge.due("the first of two", two.goesTo(1), 0);
        Edge.due("the second of two", two.goesTo(2), 0);
        Edge.due("the second at the fair", two.on(2, 1, 1), 1);
        fewerThanTwo();
    }

    private static UnfinishedFair onlyBids(int skill) {
        UnfinishedFair x = Edge.allWithSkill(0);
        x.person(3, 0, skill);
        x.thing(Edge.BOAT, 0);
        return x;
    }

    private static void fewerThanTwo() {
        Edge.sentence("of PEOPLE that have fewer than 2 unfinished THINGS WITH them, the one whose BID is greatest (of several the least) has it WITH it, if that BID is what is ASKED, or more.");
        UnfinishedFair x = Edge.withSkills(3, 9, 10, 10, 4, 10);
        x.thing(Edge.THING, 0);
        Edge.due("of three alike", x.goesTo(0), 2);
        Edge.put(x, Edge.THING, 50, 2, 0);
        Edge.due("one unfinished", x.goesTo(0), 2);
        Edge.put(x, Edge.THING, 99, 2, 0);
        Edge.due("two unfinished", x.goesTo(0), 3);
        x.set(2, 1, 100);
        Edge.due("one of two finished", x.goesTo(0), 2);
        x.set(2, 1, 99);
        x.set(1, 2, 3);
        x.set(2, 2, 3);
        Edge.put(x, Edge.THING, 0, 5, 0);
        Edge.put(x, Edge.THING, 0, 2, 0);
        Edge.put(x, Edge.THING, 0, 2, 0);
        Edge.put(x, Edge.THING, 0, 5, 0);
        Edge.due("all three have two", x.goesTo(0), 1);
        Edge.put(x, Edge.THING, 0, 1, 0);
        Edge.due("one and the next", x.goesTo(0), 1);
        x.set(2, 2, 1);
        Edge.due("of three, one has one again", x.goesTo(0), 3);
        UnfinishedFair more = Edge.withSkills(20, 5, 0, 0, 0, 0);
        more.thing(Edge.THING, 0);
        for (int held = 1; held <= 7; held++) {
            Edge.put(more, Edge.THING, 0, 0, 0);
            Edge.due("one has " + held, more.goesTo(0), held < 2 ? 0 : 1);
        }
        UnfinishedFair poor = Edge.allWithSkill(20);
        poor.thing(Edge.QUARREL, 0);
        Edge.due("bid 0, asked 1", poor.goesTo(0), Edge.NONE);
        poor.person(5, 0, 19);
        Edge.due("bid 1, asked 1", poor.goesTo(0), 5);
    }

    public static void main(String[] args) {
        newObject();
        person();
        personOf();
        thing();
        of();
        by();
        goesOn();
        tires();
        bid();
        asked();
        quotients();
        howFar();
        set();
        turn();
        as();
        leave();
        goesTo();
        Edge.end();
    }
}
