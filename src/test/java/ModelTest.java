import java.util.ArrayList;
import java.util.Arrays;
import java.util.List;
import java.util.Random;
import java.util.function.Predicate;
import java.util.regex.Matcher;
import java.util.regex.Pattern;

/**
 * Runs of drawn calls, the same at each time, on UnfinishedFair and on a second telling of the
 * document that is written for plainness alone: every answer has to be the same.
 */
public final class ModelTest {
    private static final int RUNS = 600;
    private static final int CALLS = 512;
    private static final String[] KIND_NAMES = {"thing", "boat", "jersey", "quarrel", "bridge", "letter"};

    // ---- the model

    /** A finding, thrown by the model's acts. */
    private static final class Finding extends RuntimeException {
        final int number;

        Finding(int number) {
            super("finding", null, false, false);
            this.number = number;
        }
    }

    private static void ask(boolean holds, int finding) {
        if (!holds) {
            throw new Finding(-1000000000 - finding);
        }
    }

    private static final int BEYOND = 1;
    private static final int FULL = 2;
    private static final int KIND = 3;
    private static final int NONE = 4;
    private static final int STATE = 5;
    private static final int MISSING = 6;
    private static final int SIZE = 7;

    private static final class Thing {
        int kind;
        int done;
        int with = -1;
        int dust;

        Thing(int kind, int done) {
            this.kind = kind;
            this.done = done;
        }

        boolean open() {
            return done < 100;
        }

        int goesOn(int s) {
            int jersey = done < 50 ? s + 3 : s;
            return switch (kind) {
                case 0 -> s;
                case 1 -> s / 2;
                case 2 -> jersey;
                case 3 -> done == 99 ? 0 : 1;
                case 4 -> s / 2 + 2;
                default -> dust > 10 ? jersey * 2 : jersey;
            };
        }

        int tires() {
            return new int[] {1, 2, 1, 0, 2, 0}[kind];
        }

        int bid(int s) {
            int jersey = done > 70 ? 3 * s : 2 * s;
            return new int[] {2 * s, s, jersey, 20 - s, s + dust / 10, jersey}[kind];
        }

        int asked() {
            int boat = dust >= 7 ? 1 : 8 - dust;
            return new int[] {8, boat, 8, 1, boat, 8 + done / 10}[kind];
        }

        Thing twin() {
            Thing twin = new Thing(kind, done);
            twin.with = with;
            twin.dust = dust;
            return twin;
        }
    }

    private static final class World {
        int year;
        int[][] people = new int[6][];
        List<Thing> things = new ArrayList<>();

        World() {
            for (int p = 0; p < 6; p++) {
                people[p] = new int[] {5, 4, 0};
            }
        }

        World twin() {
            World twin = new World();
            twin.year = year;
            for (int p = 0; p < 6; p++) {
                twin.people[p] = people[p].clone();
            }
            for (Thing t : things) {
                twin.things.add(t.twin());
            }
            return twin;
        }

        World on(int n) {
            World then = twin();
            for (int i = 0; i < n; i++) {
                then.goYear();
            }
            return then;
        }

        int bits(Predicate<Thing> which) {
            int set = 0;
            for (int i = 0; i < things.size(); i++) {
                set += which.test(things.get(i)) ? (int) Math.pow(2, i) : 0;
            }
            return set;
        }

        int done() {
            return things.stream().mapToInt(t -> t.done).sum();
        }

        boolean allDone() {
            return things.stream().noneMatch(Thing::open);
        }

        long load(int p) {
            return things.stream().filter(t -> t.with == p && t.open()).count();
        }

        int taker(Thing t) {
            int best = -1;
            for (int p = 5; p >= 0; p--) {
                boolean free = load(p) < 2;
                if (free && (best < 0 || t.bid(people[p][0]) >= t.bid(people[best][0]))) {
                    best = p;
                }
            }
            return best >= 0 && t.bid(people[best][0]) >= t.asked() ? best : -1;
        }

        void leave(Thing t) {
            people[t.with][1] = 4;
            t.with = -1;
            t.dust = 0;
        }

        void goYear() {
            for (Thing t : things) {
                if (t.with < 0 || !t.open()) {
                    continue;
                }
                int[] one = people[t.with];
                t.done = Math.min(100, t.done + t.goesOn(one[0]));
                if (!t.open()) {
                    one[2] = Math.min(999, one[2] + 1);
                    one[1] = Math.min(9, one[1] + 2);
                } else {
                    one[1] -= t.tires();
                    if (one[1] < 1) {
                        leave(t);
                    }
                }
            }
            for (Thing t : things) {
                if (t.with < 0 && t.open()) {
                    t.dust = Math.min(999, t.dust + 1);
                    t.with = taker(t);
                }
            }
            year++;
        }

        int first(int most, Predicate<World> holds) {
            World w = twin();
            for (int n = 0; n <= most; n++) {
                if (holds.test(w)) {
                    return n;
                }
                w.goYear();
            }
            return -1;
        }
    }

    private static final class Fault extends RuntimeException {
        final int place;

        Fault(int place) {
            super("fault", null, false, false);
            this.place = place;
        }
    }

    /** Tokens by regular expression, items by taking from their list. */
    private static final class Text {
        final String text;
        final List<String> words = new ArrayList<>();
        final List<Integer> places = new ArrayList<>();
        int at;

        Text(String text) {
            this.text = text;
            Matcher m = Pattern.compile("[a-z]+|[0-9]+|[^ ]", Pattern.DOTALL).matcher(text);
            while (m.find()) {
                words.add(m.group());
                places.add(m.start());
            }
            words.add("");
            places.add(text.length());
        }

        String peek() {
            return words.get(at);
        }

        Fault fault() {
            return new Fault(places.get(at));
        }

        boolean skip(String word) {
            boolean is = peek().equals(word);
            at += is ? 1 : 0;
            return is;
        }

        int number(int most) {
            if (!peek().matches("[0-9]+") || new java.math.BigInteger(peek()).bitLength() > 30
                || Integer.parseInt(peek()) > most) {
                throw fault();
            }
            return Integer.parseInt(words.get(at++));
        }

        int items(World w) {
            int n = 0;
            do {
                item(w);
                n++;
            } while (skip(";"));
            if (!peek().isEmpty()) {
                throw fault();
            }
            return n;
        }

        void item(World w) {
            int kind = Arrays.asList(KIND_NAMES).indexOf(peek());
            if (kind >= 0 && w.things.size() < 8) {
                at++;
                Thing t = new Thing(kind, number(99));
                t.with = skip("by") ? number(5) : -1;
                t.dust = skip("dust") ? number(999) : 0;
                w.things.add(t);
            } else if (skip("skill")) {
                w.people[number(5)][0] = number(20);
            } else if (skip("zeal")) {
                w.people[number(5)][1] = number(9);
            } else {
                throw fault();
            }
        }
    }

    private static final class Model {
        World w = new World();
        World kept;
        String tape = "";
        int[] bits = new int[4];
        long[][] sheets = new long[4][];
        int[] findings = new int[8];

        long call(int act, int[] a, long v) {
            try {
                return act(act, a, v);
            } catch (Finding f) {
                findings[-1000000000 - f.number]++;
                return f.number;
            }
        }

        static boolean in(int v, int least, int most) {
            return least <= v && v <= most;
        }

        Thing thing(int i) {
            ask(in(i, 0, w.things.size() - 1), BEYOND);
            return w.things.get(i);
        }

        int[] one(int p) {
            ask(in(p, 0, 5), BEYOND);
            return w.people[p];
        }

        long[] sheet(int s) {
            ask(in(s, 0, 3), BEYOND);
            ask(sheets[s] != null, MISSING);
            return sheets[s];
        }

        static int orNone(int answer) {
            ask(answer >= 0, NONE);
            return answer;
        }

        long act(int act, int[] a, long v) {
            if (act < 11) {
                return aboutThings(act, a);
            }
            if (act < 24) {
                return aboutYears(act, a);
            }
            return aboutTheRest(act, a, v);
        }

        long aboutThings(int act, int[] a) {
            switch (act) {
                case 0: {
                    int[] one = one(a[0]);
                    ask(in(a[1], 0, 2) && in(a[2], 0, new int[] {20, 9, 999}[a[1]]), BEYOND);
                    int was = one[a[1]];
                    one[a[1]] = a[2];
                    return was;
                }
                case 1: {
                    int[] one = one(a[0]);
                    ask(in(a[1], 0, 4), BEYOND);
                    return a[1] < 3 ? one[a[1]] : a[1] == 3 ? w.bits(t -> t.with == a[0]) : w.load(a[0]);
                }
                case 2:
                    ask(in(a[0], 0, 5) && in(a[1], 0, 99), BEYOND);
                    ask(w.things.size() < 8, FULL);
                    w.things.add(new Thing(a[0], a[1]));
                    return w.things.size() - 1;
                case 3: {
                    Thing t = thing(a[0]);
                    ask(in(a[1], 0, 5), BEYOND);
                    return new int[] {t.kind, t.done, t.with, t.dust, t.tires(), t.asked()}[a[1]];
                }
                case 4: {
                    Thing t = thing(a[0]);
                    int[] one = one(a[1]);
                    ask(in(a[2], 0, 1), BEYOND);
                    return a[2] == 0 ? t.goesOn(one[0]) : t.bid(one[0]);
                }
                case 5:
                    return change(thing(a[0]), a[1], a[2]);
                case 6: {
                    Thing t = thing(a[0]);
                    ask(in(a[1], 0, 5), BEYOND);
                    int was = t.kind;
                    t.kind = a[1];
                    return was;
                }
                case 7: {
                    Thing t = thing(a[0]);
                    ask(in(a[1], 0, 5), BEYOND);
                    String[] under = {"012345", "14", "25", "3", "4", "5"};
                    ask(under[a[1]].contains(String.valueOf(t.kind)), KIND);
                    return t.done;
                }
                case 8: {
                    Thing t = thing(a[0]);
                    ask(t.with >= 0 && t.open(), STATE);
                    int was = t.with;
                    w.leave(t);
                    return was;
                }
                case 9: {
                    Thing t = thing(a[0]);
                    ask(t.with < 0 && t.open(), STATE);
                    return orNone(w.taker(t));
                }
                default:
                    ask(in(a[0], 1, 60), BEYOND);
                    ask(w.year + a[0] <= 9999, STATE);
                    w = w.on(a[0]);
                    return w.bits(t -> !t.open());
            }
        }

        static int change(Thing t, int what, int v) {
            ask(in(what, 1, 3), BEYOND);
            int was = what == 1 ? t.done : what == 2 ? t.with : t.dust;
            if (what == 1) {
                ask(in(v, 0, 100), BEYOND);
                t.done = v;
            } else if (what == 2) {
                ask(in(v, -1, 5), BEYOND);
                t.with = v;
            } else {
                ask(in(v, 0, 999), BEYOND);
                t.dust = v;
            }
            return was;
        }

        long aboutYears(int act, int[] a) {
            switch (act) {
                case 11:
                    ask(in(a[0], 0, 4), BEYOND);
                    return new int[] {w.year, w.bits(t -> !t.open()), w.bits(t -> t.with < 0), w.done(),
                        Arrays.stream(w.people).mapToInt(p -> p[2]).sum()}[a[0]];
                case 12: {
                    thing(a[0]);
                    ask(in(a[1], 0, 100) && in(a[2], 0, 2), BEYOND);
                    Thing t = w.on(a[1]).things.get(a[0]);
                    return new int[] {t.done, t.with, t.dust}[a[2]];
                }
                case 13:
                    one(a[0]);
                    ask(in(a[1], 0, 100) && in(a[2], 0, 1), BEYOND);
                    return w.on(a[1]).people[a[0]][a[2] + 1];
                case 14:
                    thing(a[0]);
                    return orNone(w.first(200, u -> !u.things.get(a[0]).open()));
                case 15:
                    thing(a[0]);
                    one(a[1]);
                    return orNone(w.first(200, u -> u.things.get(a[0]).with == a[1]));
                case 16:
                    return orNone(w.first(200, World::allDone));
                case 17:
                    ask(thing(a[0]).open(), STATE);
                    return soonest(a[0], true);
                case 18:
                    thing(a[0]);
                    return soonest(a[0], false);
                case 19:
                    one(a[0]);
                    ask(in(a[1], 1, 60) && in(a[2], 0, 999), BEYOND);
                    return leastOf(a[0], 1, 9, a[1], u -> u.people[a[0]][2] >= a[2]);
                case 20:
                    one(a[0]);
                    ask(in(a[1], 1, 60), BEYOND);
                    return leastOf(a[0], 0, 20, a[1], World::allDone);
                case 21: {
                    ask(in(a[0], 0, 100), BEYOND);
                    int[][] then = w.on(a[0]).people;
                    int most = Arrays.stream(then).mapToInt(p -> p[2]).max().getAsInt();
                    int who = 0;
                    while (then[who][2] != most) {
                        who++;
                    }
                    return who;
                }
                case 22:
                    ask(in(a[0], 1, 30), BEYOND);
                    return bestDrop(a[0]);
                default:
                    ask(in(a[1], 1, 4), BEYOND);
                    ask(tape.length() + a[1] <= 120, FULL);
                    for (int i = a[1] - 1; i >= 0; i--) {
                        tape += (char) ((a[0] >>> (8 * i)) & 255);
                    }
                    return tape.length();
            }
        }

        int soonest(int thing, boolean byPerson) {
            int best = -1;
            int least = Integer.MAX_VALUE;
            for (int c = 5; c >= 0; c--) {
                World u = w.twin();
                if (byPerson) {
                    u.things.get(thing).with = c;
                } else {
                    u.things.get(thing).kind = c;
                }
                int n = u.first(100, x -> !x.things.get(thing).open());
                if (n >= 0 && n <= least) {
                    best = c;
                    least = n;
                }
            }
            return orNone(best);
        }

        int leastOf(int person, int trait, int most, int n, Predicate<World> holds) {
            for (int v = 0; v <= most; v++) {
                World u = w.twin();
                u.people[person][trait] = v;
                if (holds.test(u.on(n))) {
                    return v;
                }
            }
            throw new Finding(-1000000004);
        }

        int bestDrop(int n) {
            int best = -1;
            int most = -1;
            for (int i = w.things.size() - 1; i >= 0; i--) {
                World u = w.twin();
                Thing t = u.things.get(i);
                if (t.with >= 0 && t.open()) {
                    u.leave(t);
                    int sum = u.on(n).done();
                    if (sum >= most) {
                        best = i;
                        most = sum;
                    }
                }
            }
            return orNone(best);
        }

        static long fit(int bits, long v) {
            return v << (64 - bits) >> (64 - bits);
        }

        long aboutTheRest(int act, int[] a, long v) {
            switch (act) {
                case 24: {
                    int had = tape.length();
                    tape = "";
                    return had;
                }
                case 25:
                    return tell();
                case 26:
                    ask(in(a[0], 0, 3) && List.of(0, 8, 16, 64).contains(a[1]), BEYOND);
                    ask(a[2] >= 0, SIZE);
                    ask(a[2] <= 40, BEYOND);
                    bits[a[0]] = a[1];
                    sheets[a[0]] = a[1] == 0 ? null : new long[a[2]];
                    return a[1] == 0 ? 0 : a[2];
                case 27: {
                    long[] row = sheet(a[0]);
                    ask(in(a[1], 0, row.length - 1), BEYOND);
                    long was = row[a[1]];
                    row[a[1]] = fit(bits[a[0]], v);
                    return was;
                }
                case 28:
                    return copyRow(a);
                case 29: {
                    long[] row = sheet(a[0]);
                    int came = 0;
                    for (int i = 0; i < Math.min(6, row.length); i++) {
                        if (0 <= row[i] && row[i] <= 20) {
                            w.people[i][0] = (int) row[i];
                            came++;
                        }
                    }
                    return came;
                }
                case 30: {
                    long[] row = sheet(a[0]);
                    thing(a[1]);
                    for (int i = 0; i < row.length; i++) {
                        row[i] = w.on(i).things.get(a[1]).done;
                    }
                    return row.length;
                }
                case 31: {
                    long[] row = sheet(a[0]);
                    thing(a[1]);
                    one(a[2]);
                    return pairs(row, a[1], a[2]);
                }
                case 32:
                    kept = w.twin();
                    return 1;
                case 33:
                    ask(kept != null, NONE);
                    w = kept.twin();
                    return w.things.size();
                case 34: {
                    int had = kept == null ? 0 : 1;
                    kept = null;
                    return had;
                }
                case 35:
                    ask(in(a[0], 0, 3), BEYOND);
                    return new int[] {w.things.size(), tape.length(), Integer.bitCount(w.bits(t -> !t.open())),
                        w.things.stream().mapToInt(t -> t.dust).sum()}[a[0]];
                default:
                    ask(in(a[0], -1, 6), BEYOND);
                    return a[0] < 0 ? Arrays.stream(findings).sum() : findings[a[0] + 1];
            }
        }

        int tell() {
            World told = w.twin();
            String text = tape;
            tape = "";
            try {
                int items = new Text(text).items(told);
                w = told;
                return items;
            } catch (Fault f) {
                return -1 - f.place;
            }
        }

        int copyRow(int[] a) {
            ask(in(a[0], 0, 3) && in(a[2], 0, 3), BEYOND);
            long[] source = sheet(a[0]).clone();
            long[] target = sheet(a[2]);
            ask(bits[a[0]] == bits[a[2]], KIND);
            long n = a[4];
            ask(a[1] >= 0 && a[3] >= 0 && n >= 0 && a[1] + n <= source.length && a[3] + n <= target.length, BEYOND);
            for (int i = 0; i < n; i++) {
                target[a[3] + i] = source[a[1] + i];
            }
            return a[4];
        }

        int pairs(long[] row, int thing, int person) {
            int pairs = 0;
            for (int k = 0; k < 6; k++) {
                for (int s = 0; s <= 20; s++) {
                    World u = w.twin();
                    u.things.get(thing).kind = k;
                    u.people[person][0] = s;
                    boolean same = true;
                    for (int i = 0; i < row.length && same; i++) {
                        same = row[i] == u.things.get(thing).done;
                        u.goYear();
                    }
                    pairs += same ? 1 : 0;
                }
            }
            return pairs;
        }
    }

    // ---- the calls

    private static final String[] ACTS = {"person", "personOf", "thing", "of", "by", "set", "turn", "as",
        "leave", "goesTo", "years", "now", "on", "then", "finished", "comes", "all", "give", "kind", "zeal",
        "skill", "maker", "drop", "feed", "wipe", "common", "sheet", "write", "copy", "lays", "book", "read",
        "image", "undo", "tear", "count", "status"};

    /** For each act the most that each of its numbers is mostly drawn up to, from 0. */
    private static final int[][] DRAWN = {{5, 2, 20}, {5, 4}, {5, 99}, {7, 5}, {7, 5, 1}, {7, 3, 99}, {7, 5},
        {7, 5}, {7}, {7}, {60}, {4}, {7, 100, 2}, {5, 100, 1}, {7}, {7, 5}, {}, {7}, {7}, {5, 60, 3}, {5, 60},
        {100}, {30}, {-1, 4}, {}, {}, {3, 64, 40}, {3, 39}, {3, 39, 3, 39, 20}, {3}, {3, 7}, {3, 7, 5}, {}, {},
        {}, {3}, {6}};

    private static long call(UnfinishedFair x, int act, int[] a, long v) {
        return switch (act) {
            case 0 -> x.person(a[0], a[1], a[2]);
            case 1 -> x.personOf(a[0], a[1]);
            case 2 -> x.thing(a[0], a[1]);
            case 3 -> x.of(a[0], a[1]);
            case 4 -> x.by(a[0], a[1], a[2]);
            case 5 -> x.set(a[0], a[1], a[2]);
            case 6 -> x.turn(a[0], a[1]);
            case 7 -> x.as(a[0], a[1]);
            case 8 -> x.leave(a[0]);
            case 9 -> x.goesTo(a[0]);
            case 10 -> x.years(a[0]);
            case 11 -> x.now(a[0]);
            case 12 -> x.on(a[0], a[1], a[2]);
            case 13 -> x.then(a[0], a[1], a[2]);
            case 14 -> x.finished(a[0]);
            case 15 -> x.comes(a[0], a[1]);
            case 16 -> x.all();
            case 17 -> x.give(a[0]);
            case 18 -> x.kind(a[0]);
            case 19 -> x.zeal(a[0], a[1], a[2]);
            case 20 -> x.skill(a[0], a[1]);
            case 21 -> x.maker(a[0]);
            case 22 -> x.drop(a[0]);
            case 23 -> x.feed(a[0], a[1]);
            case 24 -> x.wipe();
            case 25 -> x.common();
            case 26 -> x.sheet(a[0], a[1], a[2]);
            case 27 -> x.write(a[0], a[1], v);
            case 28 -> x.copy(a[0], a[1], a[2], a[3], a[4]);
            case 29 -> x.lays(a[0]);
            case 30 -> x.book(a[0], a[1]);
            case 31 -> x.read(a[0], a[1], a[2]);
            case 32 -> x.image();
            case 33 -> x.undo();
            case 34 -> x.tear();
            case 35 -> x.count(a[0]);
            default -> x.status(a[0]);
        };
    }

    private static final class Draw {
        final Random r;
        final UnfinishedFair x = new UnfinishedFair();
        final Model m = new Model();
        final int run;
        int calls;
        int wrong;

        Draw(int run) {
            this.run = run;
            r = new Random(run);
        }

        /** What an object answers after its last call is free, so no more are made. */
        void same(int act, int[] a, long v) {
            if (calls >= CALLS) {
                return;
            }
            calls++;
            long got = call(x, act, a, v);
            long want = m.call(act, a, v);
            if (got != want) {
                wrong++;
                System.out.println("run " + run + ", call " + calls + ": " + ACTS[act] + Arrays.toString(a)
                    + (act == 27 ? " " + v : "") + " answered " + got + ", the model " + want);
            }
        }

        int number(int most) {
            int sort = r.nextInt(60);
            if (sort == 0) {
                return most + 1;
            }
            if (sort == 1) {
                return -1 - r.nextInt(2);
            }
            if (sort == 2) {
                return r.nextInt(4) == 0 ? r.nextInt() : r.nextBoolean() ? Integer.MAX_VALUE : Integer.MIN_VALUE;
            }
            return most < 0 ? r.nextInt() : sort < 8 ? most : sort < 12 ? 0 : r.nextInt(most + 1);
        }

        int[] numbers(int act) {
            int[] a = new int[DRAWN[act].length];
            for (int i = 0; i < a.length; i++) {
                a[i] = number(DRAWN[act][i]);
            }
            if (act == 0 && a[1] == 1) {
                a[2] = number(9);
            } else if (act == 0 && a[1] == 2) {
                a[2] = number(999);
            } else if (act == 5 && a[1] == 2) {
                a[2] = number(6) - 1;
            } else if (act == 5 && a[1] == 3) {
                a[2] = r.nextBoolean() ? number(999) : number(15);
            } else if (act == 26 && r.nextInt(20) > 0) {
                a[1] = new int[] {8, 8, 16, 64, 64, 0}[r.nextInt(6)];
                a[2] = r.nextBoolean() ? number(5) : a[2];
            } else if (act == 28 && r.nextInt(3) > 0) {
                a[1] = number(4);
                a[3] = number(4);
                a[4] = number(4);
            } else if (act == 27 && r.nextBoolean()) {
                a[1] = number(5);
            }
            return a;
        }

        long wide() {
            int sort = r.nextInt(4);
            return sort == 0 ? r.nextLong() : sort == 1 ? r.nextInt(400) - 200 : r.nextInt(101);
        }

        String word() {
            String[] words = {"skill", "zeal", "by", "dust", ";", "thin", "things", "0", "5", "6", "9", "20", "21",
                "99", "100", "999", "1000", "007", "99999999999", " ", "  ", "A", "\t", "\u00ff", "-", ";;"};
            int i = r.nextInt(words.length + 6);
            return i < 6 ? KIND_NAMES[i] : words[i - 6];
        }

        String item() {
            int sort = r.nextInt(10);
            if (sort < 5) {
                return KIND_NAMES[r.nextInt(6)] + " " + number(99) + (r.nextBoolean() ? " by " + number(5) : "")
                    + (r.nextBoolean() ? " dust" + number(30) : "");
            }
            return sort < 7 ? "skill " + number(5) + " " + number(20) : "zeal" + number(5) + "  " + number(9);
        }

        void text() {
            StringBuilder text = new StringBuilder(item());
            int more = r.nextInt(4);
            for (int i = 0; i < more; i++) {
                text.append(r.nextBoolean() ? ";" : " ; ").append(item());
            }
            int spoilt = r.nextInt(3) == 0 ? r.nextInt(3) : 0;
            for (int i = 0; i < spoilt; i++) {
                int at = r.nextInt(text.length() + 1);
                text.insert(at, word());
            }
            for (int i = 0; i < text.length() && calls < CALLS - 2; i += 4) {
                String part = text.substring(i, Math.min(text.length(), i + 4));
                int bytes = r.nextBoolean() ? 0 : -1;
                for (char c : part.toCharArray()) {
                    bytes = bytes << 8 | c;
                }
                same(23, new int[] {bytes, part.length()}, 0);
            }
            same(25, new int[0], 0);
        }

        void begin() {
            int things = r.nextInt(9);
            for (int i = 0; i < things; i++) {
                same(2, new int[] {r.nextInt(6), r.nextInt(100)}, 0);
            }
            boolean dull = r.nextInt(3) == 0;
            for (int p = 0; p < 6; p++) {
                same(0, new int[] {p, 0, dull ? r.nextInt(3) : r.nextInt(21)}, 0);
            }
        }

        boolean dear(int act) {
            return act >= 14 && act <= 20 || act == 22 || act == 30 || act == 31;
        }

        int go() {
            begin();
            while (calls < CALLS) {
                int sort = r.nextInt(40);
                int act = r.nextInt(ACTS.length);
                if (sort == 0) {
                    text();
                } else if (sort == 1) {
                    int s = r.nextInt(4);
                    int thing = r.nextInt(8);
                    same(30, new int[] {s, thing}, 0);
                    same(31, new int[] {s, thing, r.nextInt(6)}, 0);
                } else if (sort == 2) {
                    same(10, new int[] {1 + r.nextInt(3)}, 0);
                } else if (!dear(act) || r.nextInt(3) == 0) {
                    same(act, numbers(act), wide());
                }
            }
            return wrong;
        }
    }

    public static void main(String[] args) {
        int wrong = 0;
        for (int run = 0; run < RUNS && wrong < 20; run++) {
            wrong += new Draw(run).go();
        }
        System.out.println(wrong == 0 ? RUNS + " runs answer as the model does" : "the model answers otherwise");
        if (wrong != 0) {
            System.exit(1);
        }
    }
}
