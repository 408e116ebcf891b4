/** The edges that the document names for findings, images and counts (promises 34 to 38). */
public final class ImagesEdgesTest {
    // ---- promises 34 to 36

    /** One more of each thing that section 1 tells than what is kept. */
    private static UnfinishedFair keptThenChanged() {
        UnfinishedFair x = new UnfinishedFair();
        Edge.put(x, Edge.BRIDGE, 30, -1, 7);
        x.person(4, 0, 0);
        x.person(4, 1, 9);
        x.person(4, 2, 999);
        x.years(1);
        x.image();
        x.turn(0, Edge.LETTER);
        x.set(0, 1, 100);
        x.set(0, 2, 5);
        x.set(0, 3, 999);
        x.person(4, 0, 20);
        x.person(4, 1, 0);
        x.person(4, 2, 0);
        x.thing(Edge.THING, 0);
        x.years(60);
        return x;
    }

    private static UnfinishedFair undone() {
        UnfinishedFair x = Edge.busy();
        x.undo();
        return x;
    }

    private static UnfinishedFair oneMore() {
        UnfinishedFair x = undone();
        x.thing(Edge.THING, 9);
        return x;
    }

    private static void image() {
        Edge.sentence("All that section 1 tells (THE TAPE not) is kept: 1.");
        Edge.due("of nothing", new UnfinishedFair().image(), 1);
        Edge.changesNothing(ImagesEdgesTest::undone, "what is kept already", x -> x.image(), 1);
        Edge.changesOnly(ImagesEdgesTest::oneMore, "one more", x -> x.image(), 1, "undo=3", "kept things=3",
            "kept kind 2=0", "kept done 2=9", "kept with 2=-1", "kept dust 2=0", "told things=4", "told kind 2=0",
            "told done 2=9", "told with 2=-1", "told dust 2=0", "told kind 3=2", "told done 3=3", "told with 3=2",
            "told dust 3=1");
        UnfinishedFair x = keptThenChanged();
        Edge.feedText(x, "zeal 3");
        x.sheet(1, 16, 2);
        x.write(1, 1, 4);
        Edge.due("undo()", x.undo(), 1);
        int[] thing = {Edge.BRIDGE, 30, 0, 8};
        for (int what = 0; what <= 3; what++) {
            Edge.due("of(0, " + what + ")", x.of(0, what), thing[what]);
        }
        int[] person = {0, 9, 999};
        for (int what = 0; what <= 2; what++) {
            Edge.due("personOf(4, " + what + ")", x.personOf(4, what), person[what]);
        }
        Edge.due("YEAR", x.now(0), 1);
        Edge.due("things", x.count(0), 1);
        Edge.due("the tape isn't kept", x.count(1), 6);
        Edge.due("its bytes aren't", Edge.tell(x, " 2"), 1);
        Edge.due("zeal 3 2", x.personOf(3, 1), 2);
        Edge.due("sheets aren't", x.write(1, 1, 0), 4);
        UnfinishedFair wiped = new UnfinishedFair();
        Edge.feedText(wiped, "zeal");
        wiped.sheet(0, 8, 2);
        wiped.image();
        wiped.wipe();
        wiped.sheet(0, 0, 0);
        wiped.undo();
        Edge.due("the tape doesn't come back", wiped.count(1), 0);
        Edge.due("a sheet doesn't come back", wiped.lays(0), Edge.MISSING);
        Edge.sentence("Each act tells its findings in the order in which they are asked; one that answers a finding changes nothing but status().");
        UnfinishedFair full = Edge.full();
        full.image();
        full.undo();
        Edge.due("eight are kept", full.count(0), 8);
        Edge.due("a 9th of what was kept", full.thing(0, 0), Edge.FULL);
    }

    private static void undo() {
        Edge.sentence("It becomes what was kept latest (which stays): how many THINGS. NONE: nothing is kept.");
        Edge.changesNothing(UnfinishedFair::new, "nothing kept", x -> x.undo(), Edge.NONE);
        Edge.changesNothing(ImagesEdgesTest::torn, "torn", x -> x.undo(), Edge.NONE);
        Edge.due("a busy one's", Edge.busy().undo(), 2);
        Edge.due("none were kept", Edge.full().undo(), 0);
        UnfinishedFair eight = Edge.full();
        eight.image();
        Edge.due("all eight", eight.undo(), 8);
        UnfinishedFair x = new UnfinishedFair();
        x.image();
        x.thing(Edge.THING, 1);
        x.image();
        x.thing(Edge.THING, 2);
        for (int i = 0; i < 3; i++) {
            Edge.due("the latest, and it stays", x.undo(), 1);
            Edge.due("done", x.of(0, 1), 1);
            Edge.due("no more", x.of(1, 1), Edge.BEYOND);
            x.set(0, 1, 50);
            x.thing(Edge.THING, 3);
        }
        UnfinishedFair own = keptThenChanged();
        own.undo();
        own.set(0, 1, 31);
        own.person(4, 0, 3);
        own.years(3);
        Edge.due("what is kept doesn't go on", own.undo(), 1);
        Edge.due("done", own.of(0, 1), 30);
        Edge.due("skill", own.personOf(4, 0), 0);
        Edge.due("YEAR", own.now(0), 1);
        backFromTheLastYear();
    }

    private static void backFromTheLastYear() {
        Edge.sentence("YEAR: 0 at first (9999 at most).");
        UnfinishedFair x = new UnfinishedFair();
        x.image();
        for (int i = 0; i < 166; i++) {
            x.years(60);
        }
        x.years(39);
        Edge.due("9999", x.now(0), 9999);
        Edge.due("no more", x.years(1), Edge.STATE);
        x.undo();
        Edge.due("0 again", x.now(0), 0);
        Edge.due("and on", x.years(60), 0);
        Edge.due("60", x.now(0), 60);
    }

    private static UnfinishedFair torn() {
        UnfinishedFair x = Edge.busy();
        x.tear();
        return x;
    }

    private static void tear() {
        Edge.sentence("Nothing is kept: 1 if something was, else 0.");
        Edge.changesNothing(UnfinishedFair::new, "nothing", x -> x.tear(), 0);
        Edge.changesNothing(ImagesEdgesTest::torn, "twice", x -> x.tear(), 0);
        UnfinishedFair x = keptThenChanged();
        Edge.due("something", x.tear(), 1);
        Edge.due("all stays as it is", x.count(0), 2);
        Edge.due("all stays as it is", x.of(0, 1), 100);
        Edge.due("all stays as it is", x.now(0), 61);
        Edge.due("nothing now", x.tear(), 0);
        Edge.due("undo()", x.undo(), Edge.NONE);
        Edge.due("image()", x.image(), 1);
        Edge.due("image() again", x.image(), 1);
        Edge.due("one was", x.tear(), 1);
        Edge.due("of two images none is left", x.tear(), 0);
    }

    // ---- promises 37 and 38

    private static void count() {
        Edge.sentence("0 THINGS, 1 bytes of THE TAPE, 2 those that are finished, 3 DUST of all together. BEYOND: another what.");
        Edge.bounds("count", (x, a) -> x.count(a[0]), new int[] {0}, 0, 0, 3);
        int[] none = {0, 0, 0, 0};
        int[] busy = {6, 29, 1, 46};
        int[] full = {8, 120, 0, 28};
        for (int what = 0; what <= 3; what++) {
            int w = what;
            Edge.changesNothing(UnfinishedFair::new, "count(" + what + ") of nothing", x -> x.count(w), none[what]);
            Edge.changesNothing(Edge::busy, "count(" + what + ")", x -> x.count(w), busy[what]);
            Edge.changesNothing(Edge::full, "count(" + what + ") of all", x -> x.count(w), full[what]);
        }
        UnfinishedFair x = Edge.full();
        for (int i = 0; i < 8; i++) {
            x.set(i, 1, i == 3 ? 99 : 100);
            x.set(i, 3, 999);
        }
        Edge.due("99 isn't finished", x.count(2), 7);
        Edge.due("most dust", x.count(3), 7992);
        x.set(3, 1, 100);
        Edge.due("all are finished", x.count(2), 8);
    }

    /** Answers each finding once, by acts of each sort; 7 in all. */
    private static void eachFinding(UnfinishedFair x) {
        Edge.due("BEYOND", x.maker(101), -1000000001);
        Edge.due("FULL", x.thing(0, 0), -1000000002);
        Edge.due("KIND", x.as(0, 1), -1000000003);
        Edge.due("NONE", x.all(), -1000000004);
        Edge.due("STATE", x.goesTo(0), -1000000005);
        Edge.due("MISSING", x.write(3, 0, 0), -1000000006L);
        Edge.due("SIZE", x.sheet(3, 8, -1), -1000000007);
    }

    private static void status() {
        Edge.sentence("-1000000001 BEYOND, -1000000002 FULL, -1000000003 KIND, -1000000004 NONE, -1000000005 STATE, -1000000006 MISSING, -1000000007 SIZE (in longs, too).");
        UnfinishedFair x = Edge.full();
        eachFinding(x);
        Edge.sentence("which -1: all, 0 to 6: BEYOND to SIZE.");
        for (int which = 0; which <= 6; which++) {
            Edge.due("status(" + which + ")", x.status(which), 1);
        }
        Edge.due("status(-1)", x.status(-1), 7);
        Edge.sentence("(undo() takes none back)");
        x.undo();
        Edge.due("after undo()", x.status(-1), 7);
        Edge.due("of one", x.status(1), 1);
        Edge.sentence("BEYOND (counted from then on): another one.");
        Edge.bounds("status", (y, a) -> y.status(a[0]), new int[] {0}, 0, -1, 6);
        Edge.due("7", x.status(7), Edge.BEYOND);
        Edge.due("counted", x.status(-1), 8);
        Edge.due("-2", x.status(-2), Edge.BEYOND);
        Edge.due("counted as BEYOND", x.status(0), 3);
        Edge.due("asking isn't counted", x.status(-1), 9);
        Edge.sentence("(nothing changes but that THE TAPE is empty; no finding)");
        x.wipe();
        Edge.due("a fault", x.common(), -1);
        Edge.due("isn't counted", x.status(-1), 9);
        severalOfEach();
    }

    private static void severalOfEach() {
        Edge.sentence("How many acts answered a finding ever");
        UnfinishedFair x = Edge.full();
        for (int i = 0; i < 30; i++) {
            eachFinding(x);
        }
        for (int which = 0; which <= 6; which++) {
            Edge.due("status(" + which + ")", x.status(which), 30);
        }
        Edge.due("status(-1)", x.status(-1), 210);
        Edge.sentence("An object is used for at most 512 calls after it has been made");
        UnfinishedFair tired = new UnfinishedFair();
        for (int i = 0; i < 510; i++) {
            tired.undo();
        }
        Edge.due("510 times", tired.status(3), 510);
        Edge.due("510 times", tired.status(-1), 510);
    }

    public static void main(String[] args) {
        image();
        undo();
        tear();
        count();
        status();
        Edge.end();
    }
}
