/** The edges that the document names for the tape and the text of a common (promises 25 to 27). */
public final class TextEdgesTest {
    // ---- promise 25

    private static UnfinishedFair fed(int length) {
        UnfinishedFair x = new UnfinishedFair();
        x.image();
        Edge.feedText(x, ("zeal 1 7" + " ".repeat(112)).substring(0, length));
        return x;
    }

    private static void feed() {
        Edge.Call feed = (x, a) -> x.feed(a[0], a[1]);
        Edge.sentence("(n 1 to 4): how many it has. BEYOND: n. FULL.");
        Edge.bounds("feed", feed, new int[] {' ', 1}, 1, 1, 4);
        Edge.sentence("THE TAPE (bytes, at most 120)");
        for (int length = 115; length <= 120; length++) {
            for (int n = 1; n <= 4; n++) {
                int[] a = {0x20202020, n};
                int had = length;
                String what = n + " behind " + length;
                if (length + n <= 120) {
                    Edge.changesOnly(() -> fed(had), what, x -> feed.on(x, a), length + n, "tape=" + (length + n));
                } else {
                    Edge.changesNothing(() -> fed(had), what, x -> feed.on(x, a), Edge.FULL);
                }
            }
        }
        Edge.sentence("BEYOND: n. FULL.");
        for (int n : new int[] {0, -1, 5, Edge.LOWEST, Edge.HIGHEST}) {
            Edge.changesNothing(() -> fed(120), n + " behind 120", x -> x.feed(0, n), Edge.BEYOND);
        }
        Edge.sentence("THE TAPE gets the n lowest bytes of a number behind it, the highest of these first");
        lowestBytes();
    }

    private static void lowestBytes() {
        // "boat", of which the higher bytes may not come
        int boat = 'b' << 24 | 'o' << 16 | 'a' << 8 | 't';
        String[] lowest = {"", "t", "at", "oat", "boat"};
        for (int n = 1; n <= 4; n++) {
            UnfinishedFair x = new UnfinishedFair();
            Edge.feedText(x, "boat".substring(0, 4 - n));
            Edge.due("feed " + lowest[n], x.feed(boat, n), 4);
            Edge.due("boat 7", Edge.tell(x, " 7"), 1);
            Edge.due("is a boat", x.of(0, 0), Edge.BOAT);
        }
        UnfinishedFair x = new UnfinishedFair();
        x.feed('t' | -256, 1);
        x.feed('h' << 8 | 'i' | 0xFFFF0000, 2);
        x.feed('n' << 16 | 'g' << 8 | '4' | 0xFF000000, 3);
        Edge.due("a number below 0", x.common(), 1);
        Edge.due("thing 4", x.of(0, 1), 4);
        Edge.due("the lowest number", x.feed(Edge.LOWEST, 4), 4);
        Edge.due("a byte of 128 first", x.common(), -1);
        x.feed(Edge.LOWEST, 3);
        Edge.due("three bytes of 0", x.common(), -1);
    }

    // ---- promise 26

    private static void wipe() {
        Edge.sentence("THE TAPE is empty: how many it had.");
        Edge.changesNothing(UnfinishedFair::new, "none", x -> x.wipe(), 0);
        Edge.changesOnly(() -> fed(1), "one", x -> x.wipe(), 1, "tape=0");
        Edge.changesOnly(() -> fed(120), "120", x -> x.wipe(), 120, "tape=0", "text=-1", "told zeal 1=4");
        UnfinishedFair x = fed(120);
        x.wipe();
        Edge.due("room again", x.feed(' ', 1), 1);
        Edge.due("nothing of before", Edge.tell(x, "zeal 2 3"), 1);
        Edge.due("nothing of before", x.personOf(1, 1), 4);
        Edge.due("what came since", x.personOf(2, 1), 3);
    }

    // ---- promise 27

    /** A busy common with another text on its tape. */
    private static UnfinishedFair said(String text) {
        UnfinishedFair x = Edge.busy();
        x.wipe();
        Edge.feedText(x, text);
        return x;
    }

    /** The text has its fault there: nothing changes but that the tape is empty. */
    private static void fault(String text, int place) {
        String[] changes = new String[(text.isEmpty() ? 0 : 1) + (place == 0 ? 0 : 1)];
        if (changes.length > 0) {
            changes[0] = "tape=0";
        }
        if (changes.length > 1) {
            changes[1] = "text=-1";
        }
        Edge.changesOnly(() -> said(text), "'" + text + "'", x -> x.common(), -1 - place, changes);
    }

    /** The text is good, and of a common with no things its first one is so. */
    private static void thing(String text, int items, int kind, int done, int with, int dust) {
        UnfinishedFair x = new UnfinishedFair();
        Edge.due("'" + text + "'", Edge.tell(x, text), items);
        Edge.due("'" + text + "': kind", x.of(0, 0), kind);
        Edge.due("'" + text + "': done", x.of(0, 1), done);
        Edge.due("'" + text + "': with", x.of(0, 2), with);
        Edge.due("'" + text + "': dust", x.of(0, 3), dust);
        Edge.due("'" + text + "': the tape", x.count(1), 0);
        Edge.due("'" + text + "': findings", x.status(-1), 0);
    }

    private static void trait(String text, int person, int what, int want) {
        UnfinishedFair x = new UnfinishedFair();
        Edge.due("'" + text + "'", Edge.tell(x, text), 1);
        Edge.due("'" + text + "'", x.personOf(person, what), want);
        Edge.due("'" + text + "': things", x.count(0), 0);
    }

    private static void whatChanges() {
        Edge.sentence("THE TAPE is THE TEXT of a COMMON, whose ITEMS come to what there is, and empty then: how many ITEMS.");
        Edge.changesOnly(() -> said("zeal 1 7;jersey 3 by 2 dust 1;skill 5 0"), "three", x -> x.common(), 3,
            "tape=0", "text=-1", "zeal 1=7", "skill 5=0", "things=7", "kind 6=2", "done 6=3", "with 6=2", "dust 6=1",
            "told zeal 1=4", "told skill 5=5", "told things=2", "told kind 2 is gone", "told done 2 is gone",
            "told with 2 is gone", "told dust 2 is gone");
        Edge.sentence("With a FAULT: -1 less its place (nothing changes but that THE TAPE is empty; no finding).");
        fault("zeal 1 7;jersey 3 by 2 dust 1;skill 5 21", 38);
        fault("skill 0 0;zeal 0 0;boat 1 by 0;zeal 1", 37);
        fault("x", 0);
        Edge.sentence("or how many bytes there are if it ends too early.");
        fault("", 0);
        fault(" ", 1);
        fault(" ".repeat(120), 120);
        String[] early = {"thing", "thing ", "thing 5 by", "thing 5 by ", "thing 5 dust", "thing 5 by 3 dust ", "skill",
            "skill 1", "skill 1 ", "zeal ", "zeal 1 ", "thing 5;", "thing 5 ;  ", "thing 5;skill 1"};
        for (String text : early) {
            fault(text, text.length());
        }
    }

    private static void tokens() {
        Edge.sentence("TOKENS, each as long as can be");
        thing("thing5", 1, Edge.THING, 5, -1, 0);
        thing("thing 55", 1, Edge.THING, 55, -1, 0);
        thing("boat5by3dust7", 1, Edge.BOAT, 5, 3, 7);
        thing("boat5;boat6", 2, Edge.BOAT, 5, -1, 0);
        fault("things 5", 0);
        fault("thingboat 5", 0);
        fault("thing 5 bydust 3", 8);
        fault("thing 5 by3dust4by5", 16);
        fault("zeal12", 4);
        fault("zeal01", 6);
        fault("thing 555", 6);
        Edge.sentence("WORDS (letters a to z)");
        fault("`hing 5", 0);
        fault("{hing 5", 0);
        fault("Thing 5", 0);
        fault("thinG 5", 0);
        fault("thing` 5", 5);
        fault("thing{ 5", 5);
        fault("thing 5 by` 3", 10);
        fault("jersey 5 by 3;zeaz 1 1", 14);
        Edge.sentence("NUMBERS (digits, 999 at most)");
        fault("thing /", 6);
        fault("thing :", 6);
        fault("thing 5/", 7);
        fault("thing 5:", 7);
        fault("thing -5", 6);
        fault("thing +5", 6);
        thing("thing 0 dust 999", 1, Edge.THING, 0, -1, 999);
        fault("thing 0 dust 1000", 13);
        fault("thing 1000", 6);
        fault("thing 256", 6);
        fault("thing 65536", 6);
        fault("thing 4294967296", 6);
        fault("thing 4294967301 by 3", 6);
        fault("thing 18446744073709551616", 6);
        fault("thing " + "9".repeat(114), 6);
        thing("thing " + "0".repeat(113) + "9", 1, Edge.THING, 9, -1, 0);
    }

    private static void signsAndBlanks() {
        Edge.sentence("SIGN ; ; blanks may stand between.");
        thing("  thing   5   by   3   dust   7   ", 1, Edge.THING, 5, 3, 7);
        thing("thing 5 ; thing 6", 2, Edge.THING, 5, -1, 0);
        fault("th ing 5", 0);
        fault("thing 5 5", 8);
        fault("thing 5 b y 3", 8);
        for (int b : new int[] {0, 9, 10, 13, 31, 33, 127, 128, 160, 255}) {
            fault("thing" + (char) b + "5", 5);
            fault((char) b + "thing 5", 0);
            fault("thing 5 " + (char) b, 8);
        }
        fault("thing 5:thing 6", 7);
        fault("thing 5<thing 6", 7);
        fault("thing 5,thing 6", 7);
        Edge.sentence("TEXT: ITEM { ; ITEM }.");
        fault(";", 0);
        fault(";thing 5", 0);
        fault("thing 5;;thing 5", 8);
        fault("thing 5 thing 5", 8);
        fault("thing 5;", 8);
        fault("thing;5", 5);
        fault("zeal 1;1", 6);
    }

    private static void items() {
        Edge.sentence("ITEM: the name of a KIND (thing boat jersey quarrel bridge letter), a NUMBER (DONE, 0 to 99)");
        String[] names = {"thing", "boat", "jersey", "quarrel", "bridge", "letter"};
        for (int kind = 0; kind <= 5; kind++) {
            String name = names[kind];
            thing(name + " 0", 1, kind, 0, -1, 0);
            thing(name + " 99", 1, kind, 99, -1, 0);
            fault(name + " 100", name.length() + 1);
            fault(name + "s 1", 0);
            fault(name.substring(1) + " 1", 0);
            fault(name.substring(0, name.length() - 1) + " 1", 0);
            fault(name + " by 1", name.length() + 1);
            fault(name + " " + name, name.length() + 1);
        }
        Edge.sentence("perhaps by and a NUMBER (WITH one of PEOPLE, 0 to 5)");
        thing("boat 1 by 0", 1, Edge.BOAT, 1, 0, 0);
        thing("boat 1 by 5", 1, Edge.BOAT, 1, 5, 0);
        fault("boat 1 by 6", 10);
        fault("boat 1 by 999", 10);
        fault("boat 1 by 1000", 10);
        fault("boat 1 by by", 10);
        fault("boat 1 by;", 9);
        fault("boat 1 by 1 by 1", 12);
        fault("boat 1 bi 1", 7);
        fault("boat 1 b 1", 7);
        fault("boat 1 byy 1", 7);
        Edge.sentence("perhaps dust and a NUMBER (0 to 999): one more;");
        thing("boat 1 dust 0", 1, Edge.BOAT, 1, -1, 0);
        thing("boat 1 by 2 dust 999", 1, Edge.BOAT, 1, 2, 999);
        fault("boat 1 dust 1000", 12);
        fault("boat 1 by 2 dust 1000", 17);
        fault("boat 1 dust dust", 12);
        fault("boat 1 dust 1 by 2", 14);
        fault("boat 1 dust 1 dust 2", 14);
        fault("boat 1 dus 1", 7);
        fault("boat 1 dusty 1", 7);
    }

    private static void traits() {
        Edge.sentence("skill or zeal, a NUMBER (0 to 5), a NUMBER (0 to 20; ZEAL 0 to 9): that one's is so.");
        trait("skill 0 0", 0, 0, 0);
        trait("skill 5 20", 5, 0, 20);
        trait("zeal 0 0", 0, 1, 0);
        trait("zeal 5 9", 5, 1, 9);
        fault("skill 6 0", 6);
        fault("skill 0 21", 8);
        fault("zeal 6 0", 5);
        fault("zeal 0 10", 7);
        fault("zeal 0 20", 7);
        fault("skill 1000 0", 6);
        fault("skill 0 1000", 8);
        fault("skill zeal 0", 6);
        fault("skill 0 zeal", 8);
        fault("skill 0 1 2", 10);
        fault("skill 0 1 by 2", 10);
        fault("skill 0 1 dust 2", 10);
        fault("skills 0 1", 0);
        fault("skil 0 1", 0);
        fault("zea 0 1", 0);
        fault("zeall 0 1", 0);
        fault("made 0 1", 0);
        fault("by 1", 0);
        fault("dust 1", 0);
        fault("5", 0);
        UnfinishedFair x = new UnfinishedFair();
        Edge.due("the later is so", Edge.tell(x, "skill 1 9;zeal 1 9;skill 1 8;zeal 1 0"), 4);
        Edge.due("skill", x.personOf(1, 0), 8);
        Edge.due("zeal", x.personOf(1, 1), 0);
    }

    /** Each letter of a word in turn is the next one, the one before, and none. */
    private static void otherWords(String before, String word, String behind) {
        for (int i = 0; i < word.length(); i++) {
            String head = before + word.substring(0, i);
            String tail = word.substring(i + 1) + behind;
            fault(head + (char) (word.charAt(i) == 'z' ? 'a' : word.charAt(i) + 1) + tail, before.length());
            fault(head + (char) (word.charAt(i) == 'a' ? 'z' : word.charAt(i) - 1) + tail, before.length());
            fault(head + tail, before.length());
        }
    }

    private static void anotherWord() {
        Edge.sentence("(a NUMBER that may not be, another WORD, a byte that begins no TOKEN, the name of a KIND for a 9th: its own)");
        for (String name : new String[] {"thing", "boat", "jersey", "quarrel", "bridge", "letter"}) {
            otherWords("", name, " 1");
            otherWords("zeal 1 1; ", name, " 1");
        }
        otherWords("", "skill", " 1 1");
        otherWords("", "zeal", " 1 1");
        otherWords("boat 1 ", "by", " 1");
        otherWords("boat 1 ", "dust", " 1");
        otherWords("boat 1 by 1 ", "dust", " 1");
    }

    private static void firstFault() {
        Edge.sentence("FAULT: the place (from 0) of the first byte of the first TOKEN that can't stand there");
        fault("thing 100 by 6 dust 1000", 6);
        fault("thing 99 by 6 dust 1000", 12);
        fault("thing 99 by 5 dust 1000", 19);
        fault("   boats 1", 3);
        fault("   thing   100", 11);
        fault("thing 5;   boats 1", 11);
        fault("thing 5 ~;boats", 8);
        fault("thing 5;zeal 1 1;skill 2 2;thing 8 by", 37);
        fault("boat " + "1".repeat(115), 5);
        fault("a".repeat(120), 0);
        fault("thing 1" + " ".repeat(112) + ";", 120);
        fault("thing 1" + " ".repeat(112) + "x", 119);
        thing("thing 1" + " ".repeat(113), 1, Edge.THING, 1, -1, 0);
        thing(" ".repeat(113) + "thing 1", 1, Edge.THING, 1, -1, 0);
        fault(" ".repeat(115) + "thing", 120);
    }

    private static void ninth() {
        Edge.sentence("the name of a KIND for a 9th: its own");
        UnfinishedFair x = new UnfinishedFair();
        Edge.due("nine", Edge.tell(x, "boat 1;boat 2;boat 3;boat 4;boat 5;boat 6;boat 7;boat 8; boat 9"), -58);
        Edge.due("none came", x.count(0), 0);
        Edge.due("eight", Edge.tell(x, "boat 1;boat 2;boat 3;boat 4;boat 5;boat 6;boat 7;boat 8"), 8);
        for (int i = 0; i < 8; i++) {
            Edge.due("boat " + i, x.of(i, 1), i + 1);
        }
        Edge.due("one more", Edge.tell(x, "boat 1"), -1);
        Edge.due("one more, too short", Edge.tell(x, "  letter"), -3);
        Edge.due("one more, and its number", Edge.tell(x, "letter 100"), -1);
        Edge.due("one more, later", Edge.tell(x, "zeal 1 1;letter 5"), -10);
        Edge.due("zeal stays", x.personOf(1, 1), 4);
        Edge.due("people still", Edge.tell(x, "zeal 1 1"), 1);
        Edge.due("still eight", x.count(0), 8);
        Edge.due("no finding", x.status(-1), 0);
        UnfinishedFair seven = new UnfinishedFair();
        for (int i = 0; i < 7; i++) {
            seven.thing(Edge.THING, 0);
        }
        Edge.due("an 8th and a 9th", Edge.tell(seven, "boat 1;boat 2"), -8);
        Edge.due("still seven", seven.count(0), 7);
        Edge.due("an 8th", Edge.tell(seven, "boat 1"), 1);
        Edge.due("eight then", seven.count(0), 8);
        Edge.changesOnly(Edge::full, "a text of 120 bytes in a full common", y -> y.common(), 1,
            "tape=0", "text=-1", "zeal 1=7", "told zeal 1=4");
    }

    private static void mostItems() {
        Edge.sentence("how many ITEMS.");
        StringBuilder text = new StringBuilder("zeal0 0");
        for (int i = 1; i < 15; i++) {
            text.append(";zeal").append(i % 6).append(' ').append(i % 10);
        }
        UnfinishedFair x = new UnfinishedFair();
        Edge.due("bytes", text.length(), 119);
        Edge.due("fifteen", Edge.tell(x, text.toString()), 15);
        int[] zeals = {2, 3, 4, 9, 0, 1};
        for (int p = 0; p < 6; p++) {
            Edge.due("zeal of " + p, x.personOf(p, 1), zeals[p]);
        }
    }

    public static void main(String[] args) {
        feed();
        wipe();
        whatChanges();
        tokens();
        signsAndBlanks();
        items();
        traits();
        anotherWord();
        firstFault();
        ninth();
        mostItems();
        Edge.end();
    }
}
