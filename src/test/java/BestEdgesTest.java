/** The edges that the document names for what is best (promises 19 to 24). */
public final class BestEdgesTest {
    /**
     * Nobody has skill, and one has a bridge: it goes on by 2 in the years 1 and 2, lies for ten, is
     * taken by the same one, goes on in 12 and 13, .. 100 and 101. From 62 it is finished in 100.
     */
    private static UnfinishedFair slowBridge(int done) {
        UnfinishedFair x = Edge.allWithSkill(0);
        Edge.put(x, Edge.BRIDGE, done, 0, 0);
        return x;
    }

    private static UnfinishedFair finishedAndNot() {
        UnfinishedFair x = Edge.full();
        for (int i = 0; i < 8; i++) {
            x.set(i, 1, i % 2 == 0 ? 100 : 99);
            x.set(i, 2, i % 2 == 0 ? 2 : -1);
        }
        return x;
    }

    private static UnfinishedFair allFinished() {
        UnfinishedFair x = Edge.full();
        for (int i = 0; i < 8; i++) {
            x.set(i, 1, 100);
        }
        return x;
    }

    // ---- promise 19

    private static void give() {
        Edge.sentence("To whom a THING had best be given now (whatever it has), to be finished soonest (within 100 YEARS); of several the least.");
        Edge.bounds("give", (x, a) -> x.give(a[0]), new int[] {0}, 0, 0, 5);
        Edge.changesNothing(Edge::busy, "give(1)", x -> x.give(1), 5);
        Edge.changesNothing(Edge::busy, "give(4), on the common", x -> x.give(4), 5);
        Edge.changesNothing(() -> slowBridge(62), "in 100", x -> x.give(0), 0);
        Edge.changesNothing(() -> slowBridge(61), "in 101", x -> x.give(0), Edge.NONE);
        Edge.due("in 101", slowBridge(61).finished(0), 101);
        Edge.sentence("of several the least.");
        UnfinishedFair alike = Edge.withSkills(4, 9, 20, 20, 11, 20);
        Edge.put(alike, Edge.THING, 90, 5, 0);
        Edge.due("in 1 with 2, 3, 4 and 5", alike.give(0), 2);
        alike.set(0, 1, 91);
        Edge.due("in 1 with 1, too", alike.give(0), 1);
        alike.set(0, 1, 96);
        Edge.due("in 1 with all", alike.give(0), 0);
        alike.set(0, 1, 80);
        Edge.due("in 1 with 2, 3 and 5", alike.give(0), 2);
        alike.person(2, 0, 19);
        alike.person(3, 0, 19);
        Edge.due("in 1 with 5 alone", alike.give(0), 5);
        Edge.sentence("(whatever it has)");
        UnfinishedFair loaded = Edge.withSkills(3, 0, 0, 20, 0, 0);
        Edge.put(loaded, Edge.THING, 80, 0, 0);
        for (int i = 0; i < 7; i++) {
            Edge.put(loaded, Edge.QUARREL, 3, 3, 0);
        }
        Edge.due("one has seven", loaded.give(0), 3);
        Edge.sentence("BEYOND. STATE: it is finished. NONE.");
        Edge.changesNothing(Edge::busy, "finished", x -> x.give(5), Edge.STATE);
        Edge.changesNothing(BestEdgesTest::finishedOnTheCommon, "finished, on the common", x -> x.give(0), Edge.STATE);
        Edge.changesNothing(Edge::busy, "a quarrel", x -> x.give(3), Edge.NONE);
        Edge.due("99 isn't finished", finishedAndNot().give(1), 0);
        Edge.due("of nothing", new UnfinishedFair().give(0), Edge.BEYOND);
        Edge.due("the last of eight", finishedAndNot().give(7), 0);
    }

    private static UnfinishedFair finishedOnTheCommon() {
        UnfinishedFair x = slowBridge(100);
        x.set(0, 2, -1);
        return x;
    }

    // ---- promise 20

    private static void kind() {
        Edge.sentence("The KIND as one of which a THING is finished soonest (within 100 YEARS); of several the least. BEYOND. NONE.");
        Edge.bounds("kind", (x, a) -> x.kind(a[0]), new int[] {0}, 0, 0, 5);
        Edge.changesNothing(Edge::busy, "finished already", x -> x.kind(5), Edge.THING);
        Edge.changesNothing(() -> slowBridge(62), "in 100", x -> x.kind(0), Edge.BRIDGE);
        Edge.changesNothing(() -> slowBridge(61), "in 101", x -> x.kind(0), Edge.NONE);
        Edge.due("of nothing", new UnfinishedFair().kind(0), Edge.BEYOND);
        Edge.due("the last of eight", finishedAndNot().kind(7), Edge.THING);
        Edge.sentence("of several the least.");
        UnfinishedFair x = Edge.withSkills(10, 0, 0, 0, 0, 0);
        // thing 10, boat 5, jersey 13 below 50, bridge 7, letter 26 below 50 and 20
        Edge.put(x, Edge.QUARREL, 90, 0, 11);
        Edge.due("in 1 as a thing, a jersey, a letter", x.kind(0), Edge.THING);
        x.set(0, 1, 89);
        Edge.due("in 1 as a letter", x.kind(0), Edge.LETTER);
        x.set(0, 3, 10);
        Edge.due("in 2 as a thing", x.kind(0), Edge.THING);
        x.set(0, 1, 37);
        // 47, 57, .. 97, 107: seven; 50, 60, .. 100: six, as a jersey and a letter
        Edge.due("in 6 as a jersey", x.kind(0), Edge.JERSEY);
        x.set(0, 1, 95);
        Edge.due("in 1 as a boat, too", x.kind(0), Edge.THING);
        UnfinishedFair unskilled = slowBridge(98);
        unskilled.set(0, 2, 4);
        Edge.due("as a bridge alone", unskilled.kind(0), Edge.BRIDGE);
        UnfinishedFair quarrels = slowBridge(97);
        quarrels.turn(0, Edge.QUARREL);
        Edge.due("a quarrel is never", quarrels.kind(0), Edge.BRIDGE);
    }

    // ---- promise 21

    /** One goes on with a thing from 0; what it leaves, another takes who is quicker. */
    private static UnfinishedFair fromNothing(int skill) {
        UnfinishedFair x = Edge.withSkills(skill, 20, 0, 0, 0, 0);
        Edge.put(x, Edge.THING, 0, 0, 0);
        return x;
    }

    private static void zeal() {
        Edge.Call zeal = (x, a) -> x.zeal(a[0], a[1], a[2]);
        Edge.sentence("The least ZEAL (0 to 9) of one now with which it has MADE v (0 to 999) or more ON n YEARS (1 to 60). BEYOND. NONE.");
        Edge.bounds("zeal", zeal, new int[] {0, 1, 0}, 0, 0, 5);
        Edge.bounds("zeal", zeal, new int[] {0, 1, 0}, 1, 1, 60);
        Edge.bounds("zeal", zeal, new int[] {0, 1, 0}, 2, 0, 999);
        Edge.changesNothing(Edge::busy, "v 0", x -> x.zeal(0, 60, 0), 0);
        Edge.changesNothing(Edge::busy, "v 999, made", x -> x.zeal(5, 60, 999), 0);
        Edge.changesNothing(Edge::busy, "v 999, never", x -> x.zeal(0, 60, 999), Edge.NONE);
        // 12 a year take nine years, eight of them with zeal 1 less each
        Edge.changesNothing(() -> fromNothing(12), "zeal 9", x -> x.zeal(0, 9, 1), 9);
        Edge.changesNothing(() -> fromNothing(12), "a year too few", x -> x.zeal(0, 8, 1), Edge.NONE);
        Edge.changesNothing(() -> fromNothing(11), "zeal 10 there is not", x -> x.zeal(0, 60, 1), Edge.NONE);
        Edge.changesNothing(() -> fromNothing(13), "zeal 8", x -> x.zeal(0, 60, 1), 8);
        Edge.changesNothing(() -> fromNothing(12), "none is enough for 2", x -> x.zeal(0, 60, 2), Edge.NONE);
        UnfinishedFair x = fromNothing(12);
        x.person(0, 2, 998);
        Edge.due("998 made, 998 asked", x.zeal(0, 9, 998), 0);
        Edge.due("998 made, 999 asked", x.zeal(0, 9, 999), 9);
        x.person(0, 2, 999);
        Edge.due("999 made, 999 asked", x.zeal(0, 1, 999), 0);
        UnfinishedFair soon = fromNothing(20);
        soon.set(0, 1, 80);
        Edge.due("no zeal in 1", soon.zeal(0, 1, 1), 0);
        soon.set(0, 1, 79);
        Edge.due("in 2", soon.zeal(0, 2, 1), 0);
        soon.person(1, 0, 0);
        soon.person(0, 0, 3);
        soon.set(0, 1, 95);
        // left in the first year, and nobody takes it, unless zeal is 2
        Edge.due("in 2 with zeal 2", soon.zeal(0, 2, 1), 2);
        Edge.due("another's zeal is no matter", soon.zeal(1, 60, 1), Edge.NONE);
        Edge.due("of nothing", new UnfinishedFair().zeal(5, 60, 1), Edge.NONE);
    }

    // ---- promise 22

    /** Ten years by 4 and fifty by 1, if one's skill is 1. */
    private static UnfinishedFair slowLetter() {
        UnfinishedFair x = Edge.allWithSkill(0);
        Edge.put(x, Edge.LETTER, 10, 2, 0);
        return x;
    }

    private static void skill() {
        Edge.Call skill = (x, a) -> x.skill(a[0], a[1]);
        Edge.sentence("The least SKILL (0 to 20) of one now with which all are finished ON n YEARS (1 to 60). BEYOND. NONE.");
        Edge.bounds("skill", skill, new int[] {0, 1}, 0, 0, 5);
        Edge.bounds("skill", skill, new int[] {0, 1}, 1, 1, 60);
        Edge.changesNothing(UnfinishedFair::new, "nothing to finish", x -> x.skill(5, 1), 0);
        Edge.changesNothing(BestEdgesTest::allFinished, "all are", x -> x.skill(0, 60), 0);
        Edge.changesNothing(Edge::busy, "with a quarrel", x -> x.skill(0, 60), Edge.NONE);
        Edge.changesNothing(() -> fromEighty(80), "skill 20", x -> x.skill(2, 1), 20);
        Edge.changesNothing(() -> fromEighty(79), "skill 21 there is not", x -> x.skill(2, 1), Edge.NONE);
        Edge.changesNothing(() -> fromEighty(79), "in 2", x -> x.skill(2, 2), 11);
        Edge.changesNothing(() -> fromEighty(80), "another's", x -> x.skill(1, 1), Edge.NONE);
        Edge.changesNothing(BestEdgesTest::slowLetter, "in 60", x -> x.skill(2, 60), 1);
        Edge.changesNothing(BestEdgesTest::slowLetter, "in 59", x -> x.skill(2, 59), 2);
        UnfinishedFair two = fromEighty(90);
        Edge.put(two, Edge.THING, 85, 2, 0);
        Edge.due("all are finished, not one", two.skill(2, 1), 15);
    }

    private static UnfinishedFair fromEighty(int done) {
        UnfinishedFair x = Edge.allWithSkill(0);
        Edge.put(x, Edge.THING, done, 2, 0);
        return x;
    }

    // ---- promise 23

    private static void maker() {
        Edge.sentence("Who has MADE most ON n YEARS (0 to 100); of several the least. BEYOND.");
        Edge.bounds("maker", (x, a) -> x.maker(a[0]), new int[] {0}, 0, 0, 100);
        Edge.changesNothing(UnfinishedFair::new, "nobody", x -> x.maker(0), 0);
        Edge.changesNothing(UnfinishedFair::new, "nobody later", x -> x.maker(100), 0);
        Edge.changesNothing(Edge::busy, "now", x -> x.maker(0), 5);
        UnfinishedFair x = slowBridge(62);
        x.person(1, 2, 1);
        Edge.due("on 99", x.maker(99), 1);
        Edge.due("on 100, of two the least", x.maker(100), 0);
        UnfinishedFair soon = fromEighty(100);
        Edge.put(soon, Edge.BRIDGE, 98, 5, 0);
        Edge.due("on 0", soon.maker(0), 0);
        Edge.due("on 1", soon.maker(1), 5);
        for (int p = 0; p < 6; p++) {
            soon.person(p, 2, 999);
        }
        Edge.due("all held to 999", soon.maker(1), 0);
        soon.person(0, 2, 998);
        Edge.due("all but one", soon.maker(0), 1);
    }

    // ---- promise 24

    private static void drop() {
        Edge.sentence("The THING that, left off now (one that can be), makes DONE of all together most ON n YEARS (1 to 30); of several the least.");
        Edge.bounds("drop", (x, a) -> x.drop(a[0]), new int[] {1}, 0, 1, 30);
        // by one year of it: 10 a year, 6 a year, 3 a year
        Edge.changesNothing(() -> three(0), "the slowest", x -> x.drop(1), 2);
        Edge.changesNothing(() -> three(5), "the others of eight", x -> x.drop(1), 7);
        UnfinishedFair alike = three(0);
        alike.turn(0, Edge.BOAT);
        alike.person(0, 0, 6);
        Edge.due("of two alike", alike.drop(1), 0);
        alike.set(0, 1, 100);
        Edge.due("a finished one can't be", alike.drop(1), 2);
        alike.set(0, 1, 99);
        Edge.due("one at 99 can be", alike.drop(1), 0);
        alike.set(0, 2, -1);
        Edge.due("one on the common can't be", alike.drop(1), 2);
        Edge.changesNothing(() -> undone(3), "DONE of all is 0", x -> x.drop(30), 0);
        Edge.changesNothing(() -> undone(1), "one alone", x -> x.drop(1), 0);
        Edge.sentence("BEYOND. NONE: none can be.");
        Edge.changesNothing(UnfinishedFair::new, "nothing", x -> x.drop(1), Edge.NONE);
        Edge.changesNothing(BestEdgesTest::finishedAndNot, "on the common or finished", x -> x.drop(30), Edge.NONE);
        Edge.due("n 0 with none", new UnfinishedFair().drop(0), Edge.BEYOND);
        Edge.due("n 31 with none", new UnfinishedFair().drop(31), Edge.BEYOND);
        Edge.sentence("ON n YEARS (1 to 30)");
        leftAndTakenLater();
    }

    /** Things with one who has no skill. */
    private static UnfinishedFair undone(int things) {
        UnfinishedFair x = Edge.allWithSkill(0);
        for (int i = 0; i < things; i++) {
            Edge.put(x, Edge.THING, 0, 5, 0);
        }
        return x;
    }

    /** Some that can't be left, then things with 0, 1 and 2 that go on by 10, 6 and 3. */
    private static UnfinishedFair three(int before) {
        UnfinishedFair x = Edge.withSkills(10, 6, 3, 0, 0, 0);
        for (int i = 0; i < before; i++) {
            Edge.put(x, Edge.THING, 100, -1, 0);
        }
        for (int p = 0; p < 3; p++) {
            Edge.put(x, Edge.THING, 10, p, 0);
        }
        return x;
    }

    /** What is left goes to one of more skill at the fair, and goes on from the next year. */
    private static void leftAndTakenLater() {
        UnfinishedFair x = Edge.withSkills(6, 20, 0, 0, 0, 0);
        Edge.put(x, Edge.BOAT, 0, 0, 0);
        Edge.put(x, Edge.LETTER, 50, 0, 0);
        x.person(0, 1, 9);
        // left is the boat: 0, 10, 20; the letter 56, 62, 68. Left is the letter: 50, 70, 90; the boat 3, 6, 9
        Edge.due("on 1", x.drop(1), 0);
        Edge.due("on 2", x.drop(2), 1);
    }

    public static void main(String[] args) {
        give();
        kind();
        zeal();
        skill();
        maker();
        drop();
        Edge.end();
    }
}
