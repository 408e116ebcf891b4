import java.io.IOException;
import java.nio.file.Files;
import java.nio.file.Path;
import java.util.Arrays;
import java.util.Map;
import java.util.Set;
import java.util.TreeMap;
import java.util.TreeSet;

/** What the tests of the document's edges share: a sentence, what is due there, what may change. */
final class Edge {
    static final int BEYOND = -1000000001;
    static final int FULL = -1000000002;
    static final int KIND = -1000000003;
    static final int NONE = -1000000004;
    static final int STATE = -1000000005;
    static final int MISSING = -1000000006;
    static final int SIZE = -1000000007;
    static final int FINDINGS = 7;
    static final int LOWEST = Integer.MIN_VALUE;
    static final int HIGHEST = Integer.MAX_VALUE;

    static final int THING = 0;
    static final int BOAT = 1;
    static final int JERSEY = 2;
    static final int QUARREL = 3;
    static final int BRIDGE = 4;
    static final int LETTER = 5;

    /** Tells more of a wide number than 16 bits hold, so that each width answers otherwise. */
    private static final long WIDE = 0x0123456789ABCDEFL;
    private static final Path DOCUMENT = Path.of("../shared/DOC.md");

    interface Common {
        UnfinishedFair make();
    }

    interface Act {
        long on(UnfinishedFair x);
    }

    interface Call {
        long on(UnfinishedFair x, int[] a);
    }

    private static String words = "";
    private static String document;
    private static int sentences = 0;
    private static int checks = 0;
    private static int wrong = 0;

    private Edge() {
    }

    // ---- what is due

    /** What comes next is due by these words, which have to stand in the document. */
    static void sentence(String said) {
        words = said;
        sentences++;
        hold("is in the document", document().isEmpty() || document().contains(said));
    }

    private static String document() {
        if (document == null) {
            try {
                document = Files.exists(DOCUMENT) ? Files.readString(DOCUMENT).replaceAll("\\s+", " ") : "";
            } catch (IOException e) {
                document = "";
            }
        }
        return document;
    }

    static void hold(String what, boolean holds) {
        checks++;
        if (!holds) {
            wrong++;
            System.out.println("\"" + words + "\": not so: " + what);
        }
    }

    static void due(String what, long got, long want) {
        checks++;
        if (got != want) {
            wrong++;
            System.out.println("\"" + words + "\": " + what + " answered " + got + ", due is " + want);
        }
    }

    static void end() {
        System.out.println(sentences + " sentences, " + checks + " answers looked at, " + wrong + " not as due");
        if (wrong != 0) {
            System.exit(1);
        }
    }

    // ---- commons

    static UnfinishedFair withSkills(int... skills) {
        UnfinishedFair x = new UnfinishedFair();
        for (int p = 0; p < skills.length; p++) {
            x.person(p, 0, skills[p]);
        }
        return x;
    }

    static UnfinishedFair allWithSkill(int skill) {
        return withSkills(skill, skill, skill, skill, skill, skill);
    }

    static int put(UnfinishedFair x, int kind, int done, int with, int dust) {
        int thing = x.thing(kind, Math.min(done, 99));
        x.set(thing, 1, done);
        x.set(thing, 2, with);
        x.set(thing, 3, dust);
        return thing;
    }

    static void feedText(UnfinishedFair x, String text) {
        for (int i = 0; i < text.length(); i += 4) {
            int n = Math.min(4, text.length() - i);
            int bytes = 0;
            for (int k = 0; k < n; k++) {
                bytes = bytes << 8 | text.charAt(i + k) & 255;
            }
            x.feed(bytes, n);
        }
    }

    static int tell(UnfinishedFair x, String text) {
        feedText(x, text);
        return x.common();
    }

    private static final int[][] BUSY_PEOPLE = {{6, 8, 1}, {9, 5, 17}, {3, 3, 0}, {12, 2, 4}, {0, 9, 8}, {20, 1, 999}};
    /** Of each thing its kind, how far it is done, with whom, its dust. */
    private static final int[][] BUSY_THINGS = {{LETTER, 40, 2, 3}, {BOAT, 50, 3, 4}, {JERSEY, 60, 0, 2},
        {QUARREL, 70, 0, 1}, {BRIDGE, 80, -1, 31}, {THING, 100, 1, 5}};

    /** Something of everything: the year 3, a text on the tape, three sheets, another common kept. */
    static UnfinishedFair busy() {
        UnfinishedFair x = new UnfinishedFair();
        put(x, BRIDGE, 30, -1, 7);
        put(x, QUARREL, 20, 4, 8);
        x.years(2);
        x.image();
        x.years(1);
        for (int i = 0; i < BUSY_THINGS.length; i++) {
            int[] thing = BUSY_THINGS[i];
            if (i >= 2) {
                x.thing(thing[0], 0);
            }
            x.turn(i, thing[0]);
            for (int what = 1; what <= 3; what++) {
                x.set(i, what, thing[what]);
            }
        }
        for (int p = 0; p < BUSY_PEOPLE.length; p++) {
            for (int what = 0; what <= 2; what++) {
                x.person(p, what, BUSY_PEOPLE[p][what]);
            }
        }
        x.sheet(0, 8, 3);
        x.sheet(1, 8, 2);
        x.sheet(2, 64, 2);
        long[][] rows = {{7, -8, 19}, {0, 99}, {1L << 40, 3}};
        for (int s = 0; s < rows.length; s++) {
            for (int i = 0; i < rows[s].length; i++) {
                x.write(s, i, rows[s][i]);
            }
        }
        feedText(x, "zeal 1 7;jersey 3 by 2 dust 1");
        return x;
    }

    /** Eight things, all unfinished and with one; the tape and a sheet are full, too. */
    static UnfinishedFair full() {
        UnfinishedFair x = new UnfinishedFair();
        x.image();
        for (int i = 0; i < 8; i++) {
            put(x, i % 6, 10 + i, 2, i);
        }
        x.sheet(0, 8, 40);
        x.write(0, 39, 4);
        feedText(x, "zeal 1 7" + " ".repeat(112));
        return x;
    }

    // ---- what changes

    private static void tellCommon(UnfinishedFair x, String when, Map<String, Long> tale) {
        String[] ofPeople = {"skill ", "zeal ", "made "};
        String[] ofThings = {"kind ", "done ", "with ", "dust "};
        for (int p = 0; p < 6; p++) {
            for (int what = 0; what < ofPeople.length; what++) {
                tale.put(when + ofPeople[what] + p, (long) x.personOf(p, what));
            }
        }
        for (int i = 0; i < x.count(0); i++) {
            for (int what = 0; what < ofThings.length; what++) {
                tale.put(when + ofThings[what] + i, (long) x.of(i, what));
            }
        }
        tale.put(when + "things", (long) x.count(0));
        tale.put(when + "year", (long) x.now(0));
    }

    private static void tellSheet(UnfinishedFair x, int s, Map<String, Long> tale) {
        int n = 0;
        long number = x.write(s, n, 0);
        while (number != BEYOND && number != MISSING) {
            tale.put("number " + s + " " + n, number);
            n++;
            number = x.write(s, n, 0);
        }
        x.write(s, 0, WIDE);
        tale.put("sheet " + s, number == MISSING ? MISSING : (long) n);
        tale.put("width " + s, x.write(s, 0, 0));
    }

    /** All that calls can tell of an object but status(); it is used up by that. */
    private static Map<String, Long> tale(UnfinishedFair x) {
        Map<String, Long> tale = new TreeMap<>();
        tellCommon(x, "", tale);
        tale.put("tape", (long) x.count(1));
        for (int s = 0; s < 4; s++) {
            tellSheet(x, s, tale);
        }
        tale.put("undo", (long) x.undo());
        tellCommon(x, "kept ", tale);
        tale.put("text", (long) x.common());
        tellCommon(x, "told ", tale);
        return tale;
    }

    private static long[] statuses(UnfinishedFair x) {
        long[] counts = new long[FINDINGS + 1];
        for (int which = -1; which < FINDINGS; which++) {
            counts[which + 1] = x.status(which);
        }
        return counts;
    }

    static boolean isFinding(long answer) {
        return answer < -1000000000L && answer >= SIZE;
    }

    /** The act's answer, what it counts as a finding, and that nothing but these changes ("dust 3=0"). */
    static void changesOnly(Common common, String what, Act act, long want, String... changes) {
        UnfinishedFair x = common.make();
        UnfinishedFair twin = common.make();
        long[] counts = statuses(x);
        due(what, act.on(x), want);
        if (isFinding(want)) {
            counts[0]++;
            counts[(int) (BEYOND - want) + 1]++;
        }
        hold(what + ": findings counted " + Arrays.toString(counts), Arrays.equals(counts, statuses(x)));
        Map<String, Long> was = tale(twin);
        Map<String, Long> is = tale(x);
        Set<String> differ = new TreeSet<>();
        for (Map.Entry<String, Long> now : is.entrySet()) {
            if (!now.getValue().equals(was.get(now.getKey()))) {
                differ.add(now.getKey() + "=" + now.getValue());
            }
        }
        for (String gone : was.keySet()) {
            if (!is.containsKey(gone)) {
                differ.add(gone + " is gone");
            }
        }
        Set<String> told = new TreeSet<>(Arrays.asList(changes));
        hold(what + ": changes " + told + ", but " + differ, told.equals(differ));
    }

    static void changesNothing(Common common, String what, Act act, long want) {
        changesOnly(common, what, act, want);
    }

    private static String shown(String act, int[] a) {
        return act + Arrays.toString(a).replace('[', '(').replace(']', ')');
    }

    /** Of a busy common: a number of a call is good at both its ends and BEYOND next to them. */
    static void bounds(String act, Call call, int[] base, int arg, int least, int most) {
        for (int inside : new int[] {least, most}) {
            int[] a = base.clone();
            a[arg] = inside;
            hold(shown(act, a) + " isn't BEYOND", call.on(busy(), a) != BEYOND);
        }
        for (int outside : new int[] {least - 1, most + 1, LOWEST, HIGHEST}) {
            int[] a = base.clone();
            a[arg] = outside;
            changesNothing(Edge::busy, shown(act, a), x -> call.on(x, a), BEYOND);
        }
    }
}
