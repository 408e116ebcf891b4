import java.util.ArrayList;
import java.util.List;

/** The edges that the document names for sheets (promises 28 to 33). */
public final class SheetsEdgesTest {
    private static final int[] WIDTHS = {8, 16, 64};

    // ---- promise 28

    /** What the numbers of a new sheet of a busy common change: sheet 0 had three of 8 bits. */
    private static String[] newSheet(int bits, int n) {
        List<String> changes = new ArrayList<>();
        for (int i = 0; i < n; i++) {
            changes.add("number 0 " + i + "=0");
        }
        for (int i = n; i < 3; i++) {
            changes.add("number 0 " + i + " is gone");
        }
        if (n != 3) {
            changes.add("sheet 0=" + n);
        }
        long wide = 0x0123456789ABCDEFL;
        if (n == 0) {
            changes.add("width 0=" + Edge.BEYOND);
        } else if (bits != 8) {
            changes.add("width 0=" + (bits == 16 ? (short) wide : wide));
        }
        return changes.toArray(new String[0]);
    }

    private static void sheet() {
        Edge.Call sheet = (x, a) -> x.sheet(a[0], a[1], a[2]);
        Edge.sentence("SHEETS 0 to 3 are rows of at most 40 numbers of 8, 16 or 64 bits");
        Edge.bounds("sheet", sheet, new int[] {0, 8, 4}, 0, 0, 3);
        Edge.sentence("A sheet has n numbers, all 0, of 8, 16 or 64 bits;");
        for (int bits : WIDTHS) {
            for (int n : new int[] {0, 1, 3, 40}) {
                int[] a = {0, bits, n};
                Edge.changesOnly(Edge::busy, n + " of " + bits + " bits", x -> sheet.on(x, a), n, newSheet(bits, n));
            }
        }
        Edge.sentence("bits 0: it is MISSING: n (0 if it is MISSING).");
        for (int n : new int[] {0, 1, 40}) {
            Edge.changesOnly(Edge::busy, "missing, n " + n, x -> x.sheet(0, 0, n), 0, "sheet 0=" + Edge.MISSING,
                "width 0=" + Edge.MISSING, "number 0 0 is gone", "number 0 1 is gone", "number 0 2 is gone");
            Edge.changesNothing(Edge::busy, "missing before, n " + n, x -> x.sheet(3, 0, n), 0);
        }
        Edge.sentence("BEYOND: no such sheet, other bits.");
        for (int bits : new int[] {-1, 1, 7, 9, 15, 17, 24, 32, 63, 65, 128, 264, Edge.LOWEST, Edge.HIGHEST}) {
            Edge.changesNothing(Edge::busy, bits + " bits", x -> x.sheet(0, bits, 1), Edge.BEYOND);
            Edge.changesNothing(Edge::busy, bits + " bits before SIZE", x -> x.sheet(0, bits, -1), Edge.BEYOND);
        }
        for (int s : new int[] {-1, 4}) {
            Edge.changesNothing(Edge::busy, "sheet " + s + " before SIZE", x -> x.sheet(s, 8, -1), Edge.BEYOND);
        }
        Edge.sentence("SIZE: n is below 0 (also with bits 0). BEYOND: n is above 40 (also with bits 0).");
        for (int bits : new int[] {0, 8, 16, 64}) {
            for (int s : new int[] {0, 3}) {
                Edge.changesNothing(Edge::busy, "n -1 of " + bits, x -> x.sheet(s, bits, -1), Edge.SIZE);
                Edge.changesNothing(Edge::busy, "n lowest of " + bits, x -> x.sheet(s, bits, Edge.LOWEST), Edge.SIZE);
                Edge.changesNothing(Edge::busy, "n 41 of " + bits, x -> x.sheet(s, bits, 41), Edge.BEYOND);
                Edge.changesNothing(Edge::busy, "n highest of " + bits, x -> x.sheet(s, bits, Edge.HIGHEST), Edge.BEYOND);
            }
        }
        anew();
    }

    private static void anew() {
        Edge.sentence("A sheet has n numbers, all 0");
        UnfinishedFair x = Edge.full();
        Edge.due("fewer", x.sheet(0, 8, 1), 1);
        Edge.due("as many again", x.sheet(0, 8, 40), 40);
        Edge.due("the last is 0", x.write(0, 39, 9), 0);
        x.sheet(0, 0, 40);
        x.sheet(0, 64, 40);
        Edge.due("the last is 0, once missing", x.write(0, 39, 9), 0);
        x.sheet(0, 0, 0);
        x.sheet(0, 16, 1);
        Edge.due("as many as are asked", x.write(0, 1, 9), Edge.BEYOND);
    }

    // ---- promise 29

    private static void write() {
        Edge.sentence("Number i of a sheet becomes v (its lowest bits): what it was. BEYOND: no such sheet. MISSING. BEYOND: no such number.");
        Edge.bounds("write", (x, a) -> x.write(a[0], a[1], 5), new int[] {0, 0}, 0, 0, 3);
        Edge.bounds("write", (x, a) -> x.write(a[0], a[1], 5), new int[] {0, 0}, 1, 0, 2);
        Edge.changesOnly(Edge::busy, "the first", x -> x.write(0, 0, 5), 7, "number 0 0=5");
        Edge.changesOnly(Edge::busy, "the last", x -> x.write(0, 2, 5), 19, "number 0 2=5");
        Edge.changesOnly(Edge::full, "the last of 40", x -> x.write(0, 39, -1), 4, "number 0 39=-1");
        Edge.changesNothing(Edge::full, "a 41st", x -> x.write(0, 40, -1), Edge.BEYOND);
        Edge.changesNothing(Edge::busy, "no sheet before MISSING", x -> x.write(4, -1, 5), Edge.BEYOND);
        Edge.changesNothing(Edge::busy, "MISSING before the number -1", x -> x.write(3, -1, 5), Edge.MISSING);
        Edge.changesNothing(Edge::busy, "MISSING before the number 40", x -> x.write(3, 40, 5), Edge.MISSING);
        UnfinishedFair empty = new UnfinishedFair();
        empty.sheet(2, 8, 0);
        Edge.due("the first of none", empty.write(2, 0, 1), Edge.BEYOND);
        Edge.sentence("(in longs, too)");
        Edge.due("BEYOND as a long", empty.write(-1, 0, 1), -1000000001L);
        Edge.due("MISSING as a long", empty.write(0, 0, 1), -1000000006L);
        Edge.sentence("(its lowest bits)");
        lowestBits(8, new long[][] {{127, 127}, {128, -128}, {255, -1}, {256, 0}, {-128, -128}, {-129, 127}, {384, -128},
            {Long.MIN_VALUE, 0}, {Long.MAX_VALUE, -1}, {1L << 32, 0}});
        lowestBits(16, new long[][] {{32767, 32767}, {32768, -32768}, {65535, -1}, {65536, 0}, {-32768, -32768},
            {-32769, 32767}, {255, 255}, {Long.MIN_VALUE, 0}, {Long.MAX_VALUE, -1}, {1L << 32, 0}});
        lowestBits(64, new long[][] {{65536, 65536}, {1L << 32, 1L << 32}, {-1, -1}, {Long.MIN_VALUE, Long.MIN_VALUE},
            {Long.MAX_VALUE, Long.MAX_VALUE}, {-1000000001L, -1000000001L}});
    }

    private static void lowestBits(int bits, long[][] pairs) {
        UnfinishedFair x = new UnfinishedFair();
        x.sheet(1, bits, 3);
        for (long[] pair : pairs) {
            Edge.due("at first", x.write(1, 1, pair[0]), 0);
            Edge.due(pair[0] + " in " + bits + " bits", x.write(1, 1, 0), pair[1]);
        }
        Edge.due("its neighbour", x.write(1, 0, 0), 0);
        Edge.due("its neighbour", x.write(1, 2, 0), 0);
        Edge.due("no finding", x.status(-1), 0);
    }

    // ---- promise 30

    private static UnfinishedFair rows() {
        UnfinishedFair x = new UnfinishedFair();
        x.sheet(0, 8, 5);
        x.sheet(1, 8, 3);
        x.sheet(2, 16, 5);
        for (int i = 0; i < 5; i++) {
            x.write(0, i, 10 + i);
            x.write(2, i, 30 + i);
        }
        for (int i = 0; i < 3; i++) {
            x.write(1, i, 20 + i);
        }
        return x;
    }

    private static void copies(int[] a, String... changes) {
        Edge.changesOnly(SheetsEdgesTest::rows, shown(a), x -> x.copy(a[0], a[1], a[2], a[3], a[4]), a[4], changes);
    }

    private static void refuses(int finding, int... a) {
        Edge.changesNothing(SheetsEdgesTest::rows, shown(a), x -> x.copy(a[0], a[1], a[2], a[3], a[4]), finding);
    }

    private static String shown(int[] a) {
        return "copy(" + a[0] + ", " + a[1] + ", " + a[2] + ", " + a[3] + ", " + a[4] + ")";
    }

    private static void copy() {
        Edge.sentence("n numbers of a sheet from one on come to another one from one on (as they all were): n.");
        copies(new int[] {0, 0, 1, 0, 3}, "number 1 0=10", "number 1 1=11", "number 1 2=12");
        copies(new int[] {0, 2, 1, 0, 3}, "number 1 0=12", "number 1 1=13", "number 1 2=14");
        copies(new int[] {1, 0, 0, 2, 3}, "number 0 2=20", "number 0 3=21", "number 0 4=22");
        copies(new int[] {0, 4, 1, 2, 1}, "number 1 2=14");
        copies(new int[] {0, 0, 1, 0, 0});
        copies(new int[] {0, 5, 1, 3, 0});
        copies(new int[] {0, 0, 0, 0, 5});
        copies(new int[] {2, 0, 2, 0, 5});
        copies(new int[] {0, 0, 0, 1, 4}, "number 0 1=10", "number 0 2=11", "number 0 3=12", "number 0 4=13");
        copies(new int[] {0, 1, 0, 0, 4}, "number 0 0=11", "number 0 1=12", "number 0 2=13", "number 0 3=14");
        copies(new int[] {2, 0, 2, 4, 1}, "number 2 4=30");
        Edge.sentence("BEYOND: no such sheet (either). MISSING: one is.");
        for (int s : new int[] {-1, 4, Edge.LOWEST, Edge.HIGHEST}) {
            refuses(Edge.BEYOND, s, 0, 1, 0, 1);
            refuses(Edge.BEYOND, 0, 0, s, 0, 1);
            refuses(Edge.BEYOND, s, 0, 3, 0, 1);
            refuses(Edge.BEYOND, 3, 0, s, 0, 1);
        }
        refuses(Edge.MISSING, 3, 0, 0, 0, 1);
        refuses(Edge.MISSING, 0, 0, 3, 0, 1);
        refuses(Edge.MISSING, 3, 0, 3, 0, 0);
        refuses(Edge.MISSING, 3, -1, 2, 0, 1);
        refuses(Edge.MISSING, 2, 0, 3, 0, -1);
        Edge.sentence("KIND: they are not of as many bits.");
        refuses(Edge.KIND, 0, 0, 2, 0, 1);
        refuses(Edge.KIND, 2, 0, 0, 0, 0);
        refuses(Edge.KIND, 2, -1, 1, 0, 1);
        refuses(Edge.KIND, 1, 0, 2, 0, 41);
        copyBeyond();
        copyOfEachWidth();
    }

    private static void copyBeyond() {
        Edge.sentence("BEYOND: one has not so many, or from, to or n is below 0.");
        int[][] calls = {{0, 0, 1, 0, 4}, {1, 0, 0, 0, 4}, {0, 3, 1, 0, 3}, {0, 5, 1, 0, 1}, {0, 6, 1, 0, 0},
            {0, 0, 1, 1, 3}, {0, 0, 1, 3, 1}, {0, 0, 1, 4, 0}, {0, 0, 0, 0, 6}, {0, -1, 1, 0, 1}, {0, 0, 1, -1, 1},
            {0, 0, 1, 0, -1}, {0, -1, 1, -1, 2}, {0, -1, 1, 0, 0}, {0, 0, 1, -1, 0}, {0, 5, 1, 3, -1}};
        for (int[] a : calls) {
            refuses(Edge.BEYOND, a);
        }
        for (int end : new int[] {Edge.LOWEST, Edge.HIGHEST}) {
            refuses(Edge.BEYOND, 0, end, 1, 0, 1);
            refuses(Edge.BEYOND, 0, 0, 1, end, 1);
            refuses(Edge.BEYOND, 0, 0, 1, 0, end);
            refuses(Edge.BEYOND, 0, end, 1, end, end);
            refuses(Edge.BEYOND, 0, end, 1, 0, end);
            refuses(Edge.BEYOND, 0, 1, 1, 1, end);
        }
    }

    private static void copyOfEachWidth() {
        Edge.sentence("n numbers of a sheet from one on come to another one from one on (as they all were): n.");
        for (int bits : WIDTHS) {
            UnfinishedFair x = new UnfinishedFair();
            x.sheet(2, bits, 40);
            x.sheet(3, bits, 40);
            for (int i = 0; i < 40; i++) {
                x.write(2, i, i + 1);
            }
            Edge.due("all forty", x.copy(2, 0, 3, 0, 40), 40);
            Edge.due("forty-one", x.copy(2, 0, 3, 0, 41), Edge.BEYOND);
            for (int i = 0; i < 40; i++) {
                Edge.due("number " + i, x.write(3, i, 0), i + 1);
            }
            x.sheet(3, bits, 0);
            Edge.due("none of none", x.copy(3, 0, 3, 0, 0), 0);
            Edge.due("one of none", x.copy(3, 0, 2, 0, 1), Edge.BEYOND);
            Edge.due("one to none", x.copy(2, 0, 3, 0, 1), Edge.BEYOND);
        }
        UnfinishedFair x = new UnfinishedFair();
        x.sheet(0, 8, 0);
        x.sheet(1, 64, 0);
        Edge.due("empty ones of other bits", x.copy(0, 0, 1, 0, 0), Edge.KIND);
    }

    // ---- promise 31

    private static UnfinishedFair laid(int bits, long... numbers) {
        UnfinishedFair x = new UnfinishedFair();
        x.image();
        x.sheet(1, bits, numbers.length);
        for (int i = 0; i < numbers.length; i++) {
            x.write(1, i, numbers[i]);
        }
        return x;
    }

    private static void lays() {
        Edge.sentence("Numbers of a sheet become SKILLS of PEOPLE 0, 1, .. (those that aren't 0 to 20, or stand for none, are left out): how many came.");
        Edge.bounds("lays", (x, a) -> x.lays(a[0]), new int[] {0}, 0, 0, 3);
        Edge.changesOnly(Edge::busy, "7, -8 and 19", x -> x.lays(0), 2, "skill 0=7", "skill 2=19");
        Edge.changesNothing(() -> laid(8), "none", x -> x.lays(1), 0);
        Edge.changesOnly(() -> laid(16, 0), "one", x -> x.lays(1), 1, "skill 0=0");
        Edge.changesOnly(() -> laid(8, 0, 20, 21, -1, 127, -128), "both ends", x -> x.lays(1), 2, "skill 0=0", "skill 1=20");
        Edge.changesOnly(() -> laid(64, 1L << 32, 20 + (1L << 32), Long.MIN_VALUE, Long.MAX_VALUE, 21, 4), "wide ones",
            x -> x.lays(1), 1, "skill 5=4");
        Edge.changesOnly(() -> laid(8, 21, 21, 21, 21, 21, 6), "the sixth", x -> x.lays(1), 1, "skill 5=6");
        Edge.changesNothing(() -> laid(8, 21, 21, 21, 21, 21, 21, 6), "a seventh stands for none", x -> x.lays(1), 0);
        Edge.changesOnly(() -> laid(8, 1, 2, 3, 4, 6, 7, 8), "seven, of which six come", x -> x.lays(1), 6,
            "skill 0=1", "skill 1=2", "skill 2=3", "skill 3=4", "skill 4=6", "skill 5=7");
        UnfinishedFair forty = Edge.full();
        Edge.due("of forty, six", forty.lays(0), 6);
        Edge.sentence("BEYOND: no such sheet. MISSING.");
        Edge.changesNothing(Edge::busy, "missing", x -> x.lays(3), Edge.MISSING);
        Edge.changesNothing(Edge::busy, "no such", x -> x.lays(4), Edge.BEYOND);
    }

    // ---- promise 32

    /** A quarrel goes on by 1, up to 99. */
    private static UnfinishedFair quarrel(int bits, int n) {
        UnfinishedFair x = Edge.allWithSkill(0);
        x.image();
        x.sheet(2, bits, n);
        Edge.put(x, Edge.QUARREL, 65, 1, 0);
        return x;
    }

    private static void book() {
        Edge.sentence("A book: DONE of a THING ON 0, 1, 2, .. YEARS comes to a sheet, as many as it has numbers: how many.");
        Edge.Call book = (x, a) -> x.book(a[0], a[1]);
        Edge.bounds("book", book, new int[] {0, 0}, 0, 0, 3);
        Edge.bounds("book", book, new int[] {0, 0}, 1, 0, 5);
        Edge.changesOnly(Edge::busy, "of two", x -> x.book(1, 4), 2, "number 1 0=80", "number 1 1=80");
        Edge.changesOnly(Edge::busy, "of three", x -> x.book(0, 3), 3, "number 0 0=70", "number 0 1=71", "number 0 2=72");
        Edge.changesNothing(() -> quarrel(8, 0), "of none", x -> x.book(2, 0), 0);
        Edge.changesOnly(() -> quarrel(16, 1), "of one", x -> x.book(2, 0), 1, "number 2 0=65");
        for (int bits : WIDTHS) {
            String[] forty = new String[40];
            for (int i = 0; i < 40; i++) {
                forty[i] = "number 2 " + i + "=" + Math.min(99, 65 + i);
            }
            Edge.changesOnly(() -> quarrel(bits, 40), "of forty", x -> x.book(2, 0), 40, forty);
        }
        UnfinishedFair finished = quarrel(8, 3);
        finished.set(0, 1, 100);
        Edge.due("of a finished one", finished.book(2, 0), 3);
        Edge.due("100 in 8 bits", finished.write(2, 2, 0), 100);
        Edge.sentence("BEYOND: no such sheet. MISSING. BEYOND: thing.");
        Edge.changesNothing(Edge::busy, "no such sheet", x -> x.book(4, 9), Edge.BEYOND);
        Edge.changesNothing(Edge::busy, "missing before the thing", x -> x.book(3, 9), Edge.MISSING);
        Edge.changesNothing(Edge::busy, "missing", x -> x.book(3, 0), Edge.MISSING);
        Edge.changesNothing(() -> laid(8), "a thing of none, a sheet of none", x -> x.book(1, 0), Edge.BEYOND);
    }

    // ---- promise 33

    private static UnfinishedFair told(int bits, long... numbers) {
        UnfinishedFair x = laid(bits, numbers);
        Edge.put(x, Edge.THING, 10, 0, 0);
        return x;
    }

    private static void read() {
        Edge.sentence("THE READER: numbers of a sheet are DONE of a THING ON 0, 1, 2, .. YEARS: how many pairs of a KIND of it and a SKILL (0 to 20) of one make it just so.");
        Edge.Call read = (x, a) -> x.read(a[0], a[1], a[2]);
        Edge.bounds("read", read, new int[] {0, 0, 0}, 0, 0, 3);
        Edge.bounds("read", read, new int[] {0, 0, 0}, 1, 0, 5);
        Edge.bounds("read", read, new int[] {0, 0, 0}, 2, 0, 5);
        Edge.changesNothing(() -> told(8), "none: every pair", x -> x.read(1, 0, 0), 126);
        Edge.changesNothing(() -> told(8, 10), "now: every pair", x -> x.read(1, 0, 0), 126);
        Edge.changesNothing(() -> told(8, 9), "not now: no pair", x -> x.read(1, 0, 0), 0);
        // skill 0: a thing, a boat (as with skill 1), no jersey, no letter
        Edge.changesNothing(() -> told(8, 10, 10), "by 0", x -> x.read(1, 0, 0), 3);
        // skill 20 as a thing, 17 as a jersey and as a letter
        Edge.changesNothing(() -> told(8, 10, 30), "by 20", x -> x.read(1, 0, 0), 3);
        // 18 as a jersey and as a letter
        Edge.changesNothing(() -> told(8, 10, 31), "by 21", x -> x.read(1, 0, 0), 2);
        // 20 as a jersey and as a letter
        Edge.changesNothing(() -> told(8, 10, 33), "by 23", x -> x.read(1, 0, 0), 2);
        Edge.changesNothing(() -> told(8, 10, 34), "by 24", x -> x.read(1, 0, 0), 0);
        // skill 12 or 13 as a bridge, 16 or 17 as a boat, 8 as a thing, 5 as a jersey and as a letter
        Edge.changesNothing(() -> told(16, 10, 18, 26), "by 8 twice", x -> x.read(1, 0, 0), 7);
        Edge.changesNothing(() -> told(16, 10, 18, 27), "by 8 and 9", x -> x.read(1, 0, 0), 0);
        // the others' skill makes no difference: as a thing it goes on by 5, as a jersey by 8
        Edge.changesNothing(() -> told(8, 10, 15), "another's skill", x -> x.read(1, 0, 5), 21);
        Edge.changesNothing(() -> told(8, 10, 11), "a quarrel of any skill", x -> x.read(1, 0, 0), 24);
        Edge.changesNothing(() -> told(64, 10 + (1L << 32)), "wide", x -> x.read(1, 0, 0), 0);
        Edge.changesNothing(() -> told(64, -1), "below 0", x -> x.read(1, 0, 0), 0);
        Edge.changesNothing(() -> told(64, 10, 30 + (1L << 32)), "wide later", x -> x.read(1, 0, 0), 0);
        wholeSheet();
        Edge.sentence("BEYOND: no such sheet. MISSING. BEYOND: thing, person.");
        Edge.changesNothing(Edge::busy, "no such sheet", x -> x.read(4, 9, 9), Edge.BEYOND);
        Edge.changesNothing(Edge::busy, "missing before the thing", x -> x.read(3, 9, 0), Edge.MISSING);
        Edge.changesNothing(Edge::busy, "missing before the person", x -> x.read(3, 0, 9), Edge.MISSING);
        Edge.changesNothing(() -> laid(8), "a thing of none, a sheet of none", x -> x.read(1, 0, 0), Edge.BEYOND);
        Edge.changesNothing(() -> told(8), "a person, a sheet of none", x -> x.read(1, 0, 6), Edge.BEYOND);
    }

    private static void wholeSheet() {
        UnfinishedFair x = quarrel(8, 40);
        x.book(2, 0);
        Edge.due("forty of a quarrel", x.read(2, 0, 1), 21);
        x.write(2, 39, 98);
        Edge.due("the last of forty is another", x.read(2, 0, 1), 0);
        x.write(2, 39, 99);
        x.write(2, 0, 64);
        Edge.due("the first of forty is another", x.read(2, 0, 1), 0);
    }

    public static void main(String[] args) {
        sheet();
        write();
        copy();
        lays();
        book();
        read();
        Edge.end();
    }
}
