import java.util.Arrays;

/**
 * A fair of unfinished things: people go on with them or leave them off, and once a year what lies
 * on the common goes to whoever bids most. What each method promises stands in the document.
 */
public final class UnfinishedFair {
    private static final int BEYOND = -1000000001;
    private static final int FULL = -1000000002;
    private static final int KIND = -1000000003;
    private static final int NONE = -1000000004;
    private static final int STATE = -1000000005;
    private static final int MISSING = -1000000006;
    private static final int SIZE = -1000000007;
    private static final int FINDINGS = 7;

    private static final int PEOPLE = 6;
    private static final int MOST_THINGS = 8;
    private static final int KINDS = 6;
    private static final int NOBODY = -1;
    private static final int FINISHED = 100;
    private static final int MOST_SKILL = 20;
    private static final int MOST_ZEAL = 9;
    private static final int FIRST_SKILL = 5;
    private static final int FIRST_ZEAL = 4;
    private static final int MOST_MADE = 999;
    private static final int MOST_DUST = 999;
    private static final int LAST_YEAR = 9999;
    private static final int MOST_HELD = 2;
    private static final int MOST_BYTES = 120;
    private static final int SHEETS = 4;
    private static final int MOST_NUMBERS = 40;

    private static final int LONGEST_GO = 60;
    private static final int LONGEST_ON = 100;
    private static final int LONGEST_WAIT = 200;
    private static final int LONGEST_DROP = 30;

    /** For each kind the one above it. */
    private static final int[] ABOVE = {-1, 0, 0, 0, 1, 2};

    private final Common live;
    /** All that goes ON goes on here, so that nothing changes and no call makes objects. */
    private final Common trial;
    private final Common kept;
    private boolean isKept;
    private final Tape tape;
    private final Sheet[] sheets;
    private final int[] findings;

    public UnfinishedFair() {
        Kind[] kinds = {new Kind("thing"), new Boat("boat"), new Jersey("jersey"),
            new Quarrel("quarrel"), new Bridge("bridge"), new Letter("letter")};
        live = new Common(kinds);
        trial = new Common(kinds);
        kept = new Common(kinds);
        isKept = false;
        tape = new Tape(kinds);
        sheets = new Sheet[SHEETS];
        for (int s = 0; s < SHEETS; s++) {
            sheets[s] = new Sheet();
        }
        findings = new int[FINDINGS];
    }

    // ---- people

    public int person(int person, int what, int v) {
        if (!isPerson(person)) {
            return found(BEYOND);
        }
        switch (what) {
            case 0:
                return isWithin(v, 0, MOST_SKILL) ? exchange(live.skills, person, v) : found(BEYOND);
            case 1:
                return isWithin(v, 0, MOST_ZEAL) ? exchange(live.zeals, person, v) : found(BEYOND);
            case 2:
                return isWithin(v, 0, MOST_MADE) ? exchange(live.mades, person, v) : found(BEYOND);
            default:
                return found(BEYOND);
        }
    }

    public int personOf(int person, int what) {
        if (!isPerson(person)) {
            return found(BEYOND);
        }
        switch (what) {
            case 0:
                return live.skills[person];
            case 1:
                return live.zeals[person];
            case 2:
                return live.mades[person];
            case 3:
                return live.heldSet(person);
            case 4:
                return Integer.bitCount(live.heldSet(person) & ~live.finishedSet());
            default:
                return found(BEYOND);
        }
    }

    // ---- things

    public int thing(int kind, int done) {
        if (!isKind(kind) || !isWithin(done, 0, FINISHED - 1)) {
            return found(BEYOND);
        }
        if (live.isFull()) {
            return found(FULL);
        }
        int number = live.size;
        live.add(kind, done, NOBODY, 0);
        return number;
    }

    public int of(int thing, int what) {
        if (!isThing(thing)) {
            return found(BEYOND);
        }
        switch (what) {
            case 0:
                return live.kinds[thing];
            case 1:
                return live.dones[thing];
            case 2:
                return live.withs[thing];
            case 3:
                return live.dusts[thing];
            case 4:
                return live.natureOf(thing).tires();
            case 5:
                return live.natureOf(thing).asked(live.dones[thing], live.dusts[thing]);
            default:
                return found(BEYOND);
        }
    }

    public int by(int thing, int person, int what) {
        if (!isThing(thing) || !isPerson(person)) {
            return found(BEYOND);
        }
        Kind nature = live.natureOf(thing);
        int skill = live.skills[person];
        switch (what) {
            case 0:
                return nature.goesOn(skill, live.dones[thing], live.dusts[thing]);
            case 1:
                return nature.bid(skill, live.dones[thing], live.dusts[thing]);
            default:
                return found(BEYOND);
        }
    }

    public int set(int thing, int what, int v) {
        if (!isThing(thing)) {
            return found(BEYOND);
        }
        switch (what) {
            case 1:
                return isWithin(v, 0, FINISHED) ? exchange(live.dones, thing, v) : found(BEYOND);
            case 2:
                return isWithin(v, NOBODY, PEOPLE - 1) ? exchange(live.withs, thing, v) : found(BEYOND);
            case 3:
                return isWithin(v, 0, MOST_DUST) ? exchange(live.dusts, thing, v) : found(BEYOND);
            default:
                return found(BEYOND);
        }
    }

    public int turn(int thing, int kind) {
        if (!isThing(thing) || !isKind(kind)) {
            return found(BEYOND);
        }
        return exchange(live.kinds, thing, kind);
    }

    public int as(int thing, int kind) {
        if (!isThing(thing) || !isKind(kind)) {
            return found(BEYOND);
        }
        if (!isOrIsUnder(live.kinds[thing], kind)) {
            return found(KIND);
        }
        return live.dones[thing];
    }

    public int leave(int thing) {
        if (!isThing(thing)) {
            return found(BEYOND);
        }
        if (!live.canBeLeft(thing)) {
            return found(STATE);
        }
        int who = live.withs[thing];
        live.letGo(thing);
        return who;
    }

    public int goesTo(int thing) {
        if (!isThing(thing)) {
            return found(BEYOND);
        }
        if (!live.isForTheFair(thing)) {
            return found(STATE);
        }
        live.countHeld();
        int who = live.takerOf(thing);
        return who == NOBODY ? found(NONE) : who;
    }

    // ---- years

    public int years(int n) {
        if (!isWithin(n, 1, LONGEST_GO)) {
            return found(BEYOND);
        }
        if (live.year + n > LAST_YEAR) {
            return found(STATE);
        }
        live.goYears(n);
        return live.finishedSet();
    }

    public int now(int what) {
        switch (what) {
            case 0:
                return live.year;
            case 1:
                return live.finishedSet();
            case 2:
                return live.heldSet(NOBODY);
            case 3:
                return live.doneOfAll();
            case 4:
                return live.madeOfAll();
            default:
                return found(BEYOND);
        }
    }

    public int on(int thing, int n, int what) {
        if (!isThing(thing) || !isWithin(n, 0, LONGEST_ON) || !isWithin(what, 0, 2)) {
            return found(BEYOND);
        }
        trial.become(live);
        trial.goYears(n);
        switch (what) {
            case 0:
                return trial.dones[thing];
            case 1:
                return trial.withs[thing];
            default:
                return trial.dusts[thing];
        }
    }

    public int then(int person, int n, int what) {
        if (!isPerson(person) || !isWithin(n, 0, LONGEST_ON) || !isWithin(what, 0, 1)) {
            return found(BEYOND);
        }
        trial.become(live);
        trial.goYears(n);
        return what == 0 ? trial.zeals[person] : trial.mades[person];
    }

    public int finished(int thing) {
        if (!isThing(thing)) {
            return found(BEYOND);
        }
        trial.become(live);
        int n = trialYearsToFinish(thing, LONGEST_WAIT);
        return n < 0 ? found(NONE) : n;
    }

    public int comes(int thing, int person) {
        if (!isThing(thing) || !isPerson(person)) {
            return found(BEYOND);
        }
        trial.become(live);
        for (int n = 0; n <= LONGEST_WAIT; n++) {
            if (trial.withs[thing] == person) {
                return n;
            }
            trial.goYear();
        }
        return found(NONE);
    }

    public int all() {
        trial.become(live);
        for (int n = 0; n <= LONGEST_WAIT; n++) {
            if (trial.isAllFinished()) {
                return n;
            }
            trial.goYear();
        }
        return found(NONE);
    }

    // ---- what is best

    public int give(int thing) {
        if (!isThing(thing)) {
            return found(BEYOND);
        }
        if (live.isFinished(thing)) {
            return found(STATE);
        }
        int best = -1;
        int soonest = LONGEST_ON + 1;
        for (int who = 0; who < PEOPLE; who++) {
            trial.become(live);
            trial.withs[thing] = who;
            int n = trialYearsToFinish(thing, soonest - 1);
            if (n >= 0) {
                best = who;
                soonest = n;
            }
        }
        return best < 0 ? found(NONE) : best;
    }

    public int kind(int thing) {
        if (!isThing(thing)) {
            return found(BEYOND);
        }
        int best = -1;
        int soonest = LONGEST_ON + 1;
        for (int kind = 0; kind < KINDS; kind++) {
            trial.become(live);
            trial.kinds[thing] = kind;
            int n = trialYearsToFinish(thing, soonest - 1);
            if (n >= 0) {
                best = kind;
                soonest = n;
            }
        }
        return best < 0 ? found(NONE) : best;
    }

    public int zeal(int person, int n, int v) {
        if (!isPerson(person) || !isWithin(n, 1, LONGEST_GO) || !isWithin(v, 0, MOST_MADE)) {
            return found(BEYOND);
        }
        for (int zeal = 0; zeal <= MOST_ZEAL; zeal++) {
            trial.become(live);
            trial.zeals[person] = zeal;
            trial.goYears(n);
            if (trial.mades[person] >= v) {
                return zeal;
            }
        }
        return found(NONE);
    }

    public int skill(int person, int n) {
        if (!isPerson(person) || !isWithin(n, 1, LONGEST_GO)) {
            return found(BEYOND);
        }
        for (int skill = 0; skill <= MOST_SKILL; skill++) {
            trial.become(live);
            trial.skills[person] = skill;
            trial.goYears(n);
            if (trial.isAllFinished()) {
                return skill;
            }
        }
        return found(NONE);
    }

    public int maker(int n) {
        if (!isWithin(n, 0, LONGEST_ON)) {
            return found(BEYOND);
        }
        trial.become(live);
        trial.goYears(n);
        int best = 0;
        for (int who = 1; who < PEOPLE; who++) {
            if (trial.mades[who] > trial.mades[best]) {
                best = who;
            }
        }
        return best;
    }

    public int drop(int n) {
        if (!isWithin(n, 1, LONGEST_DROP)) {
            return found(BEYOND);
        }
        int best = -1;
        int most = -1;
        for (int thing = 0; thing < live.size; thing++) {
            if (live.canBeLeft(thing)) {
                trial.become(live);
                trial.letGo(thing);
                trial.goYears(n);
                int done = trial.doneOfAll();
                if (done > most) {
                    best = thing;
                    most = done;
                }
            }
        }
        return best < 0 ? found(NONE) : best;
    }

    // ---- the text

    public int feed(int bytes, int n) {
        if (!isWithin(n, 1, 4)) {
            return found(BEYOND);
        }
        if (!tape.hasRoomFor(n)) {
            return found(FULL);
        }
        tape.append(bytes, n);
        return tape.length;
    }

    public int wipe() {
        int had = tape.length;
        tape.length = 0;
        return had;
    }

    public int common() {
        trial.become(live);
        int items = tape.tellTo(trial);
        tape.length = 0;
        if (items >= 0) {
            live.become(trial);
        }
        return items;
    }

    // ---- sheets

    public int sheet(int s, int bits, int n) {
        if (!isSheet(s) || !isWidth(bits)) {
            return found(BEYOND);
        }
        if (n < 0) {
            return found(SIZE);
        }
        if (n > MOST_NUMBERS) {
            return found(BEYOND);
        }
        sheets[s].begin(bits, n);
        return sheets[s].length;
    }

    public long write(int s, int i, long v) {
        if (!isSheet(s)) {
            return found(BEYOND);
        }
        Sheet sheet = sheets[s];
        if (sheet.isMissing()) {
            return found(MISSING);
        }
        if (!isWithin(i, 0, sheet.length - 1)) {
            return found(BEYOND);
        }
        long was = sheet.numbers[i];
        sheet.put(i, v);
        return was;
    }

    public int copy(int s, int from, int t, int to, int n) {
        if (!isSheet(s) || !isSheet(t)) {
            return found(BEYOND);
        }
        Sheet source = sheets[s];
        Sheet target = sheets[t];
        if (source.isMissing() || target.isMissing()) {
            return found(MISSING);
        }
        if (source.bits != target.bits) {
            return found(KIND);
        }
        if (!source.hasSpan(from, n) || !target.hasSpan(to, n)) {
            return found(BEYOND);
        }
        System.arraycopy(source.numbers, from, target.numbers, to, n);
        return n;
    }

    public int lays(int s) {
        if (!isSheet(s)) {
            return found(BEYOND);
        }
        Sheet sheet = sheets[s];
        if (sheet.isMissing()) {
            return found(MISSING);
        }
        int came = 0;
        for (int who = 0; who < PEOPLE && who < sheet.length; who++) {
            long skill = sheet.numbers[who];
            if (skill >= 0 && skill <= MOST_SKILL) {
                live.skills[who] = (int) skill;
                came++;
            }
        }
        return came;
    }

    public int book(int s, int thing) {
        if (!isSheet(s)) {
            return found(BEYOND);
        }
        Sheet sheet = sheets[s];
        if (sheet.isMissing()) {
            return found(MISSING);
        }
        if (!isThing(thing)) {
            return found(BEYOND);
        }
        trial.become(live);
        for (int n = 0; n < sheet.length; n++) {
            sheet.put(n, trial.dones[thing]);
            trial.goYear();
        }
        return sheet.length;
    }

    public int read(int s, int thing, int person) {
        if (!isSheet(s)) {
            return found(BEYOND);
        }
        Sheet sheet = sheets[s];
        if (sheet.isMissing()) {
            return found(MISSING);
        }
        if (!isThing(thing) || !isPerson(person)) {
            return found(BEYOND);
        }
        int pairs = 0;
        for (int kind = 0; kind < KINDS; kind++) {
            for (int skill = 0; skill <= MOST_SKILL; skill++) {
                trial.become(live);
                trial.kinds[thing] = kind;
                trial.skills[person] = skill;
                if (trialGoesAsTold(sheet, thing)) {
                    pairs++;
                }
            }
        }
        return pairs;
    }

    // ---- images

    public int image() {
        kept.become(live);
        isKept = true;
        return 1;
    }

    public int undo() {
        if (!isKept) {
            return found(NONE);
        }
        live.become(kept);
        return live.size;
    }

    public int tear() {
        int had = isKept ? 1 : 0;
        isKept = false;
        return had;
    }

    public int count(int what) {
        switch (what) {
            case 0:
                return live.size;
            case 1:
                return tape.length;
            case 2:
                return Integer.bitCount(live.finishedSet());
            case 3:
                return live.dustOfAll();
            default:
                return found(BEYOND);
        }
    }

    public int status(int which) {
        if (which == -1) {
            return sum(findings, FINDINGS);
        }
        if (!isWithin(which, 0, FINDINGS - 1)) {
            return found(BEYOND);
        }
        return findings[which];
    }

    // ---- what the acts share

    /** Counts a finding for status(), and answers it. */
    private int found(int finding) {
        int which = BEYOND - finding;
        if (isWithin(which, 0, FINDINGS - 1)) {
            findings[which]++;
        }
        return finding;
    }

    private boolean isThing(int thing) {
        return isWithin(thing, 0, live.size - 1);
    }

    /** In how many years (most at most) the trial's thing is finished first; -1 if it isn't. */
    private int trialYearsToFinish(int thing, int most) {
        for (int n = 0; n <= most; n++) {
            if (trial.isFinished(thing)) {
                return n;
            }
            trial.goYear();
        }
        return -1;
    }

    private boolean trialGoesAsTold(Sheet sheet, int thing) {
        for (int n = 0; n < sheet.length; n++) {
            if (sheet.numbers[n] != trial.dones[thing]) {
                return false;
            }
            trial.goYear();
        }
        return true;
    }

    private static boolean isWithin(int v, int least, int most) {
        return v >= least && v <= most;
    }

    private static boolean isPerson(int person) {
        return isWithin(person, 0, PEOPLE - 1);
    }

    private static boolean isKind(int kind) {
        return isWithin(kind, 0, KINDS - 1);
    }

    private static boolean isSheet(int s) {
        return isWithin(s, 0, SHEETS - 1);
    }

    private static boolean isWidth(int bits) {
        return bits == 0 || bits == 8 || bits == 16 || bits == 64;
    }

    private static boolean isOrIsUnder(int kind, int upper) {
        int at = kind;
        for (int step = 0; step < KINDS && isKind(at); step++) {
            if (at == upper) {
                return true;
            }
            at = ABOVE[at];
        }
        return false;
    }

    /** The caller has looked at the index. */
    private static int exchange(int[] row, int i, int v) {
        int was = row[i];
        row[i] = v;
        return was;
    }

    private static int sum(int[] row, int n) {
        int sum = 0;
        for (int i = 0; i < n && i < row.length; i++) {
            sum += row[i];
        }
        return sum;
    }

    /** The kind THING; a kind under it tells only what is otherwise with it. */
    private static class Kind {
        final String title;

        Kind(String title) {
            this.title = title;
        }

        int goesOn(int skill, int done, int dust) {
            return skill;
        }

        int tires() {
            return 1;
        }

        int bid(int skill, int done, int dust) {
            return 2 * skill;
        }

        int asked(int done, int dust) {
            return 8;
        }
    }

    private static class Boat extends Kind {
        Boat(String title) {
            super(title);
        }

        int goesOn(int skill, int done, int dust) {
            return super.goesOn(skill, done, dust) / 2;
        }

        int tires() {
            return super.tires() + 1;
        }

        int bid(int skill, int done, int dust) {
            return skill;
        }

        int asked(int done, int dust) {
            return Math.max(1, super.asked(done, dust) - dust);
        }
    }

    private static class Jersey extends Kind {
        Jersey(String title) {
            super(title);
        }

        int goesOn(int skill, int done, int dust) {
            return super.goesOn(skill, done, dust) + (done < 50 ? 3 : 0);
        }

        int bid(int skill, int done, int dust) {
            return super.bid(skill, done, dust) + (done > 70 ? skill : 0);
        }
    }

    private static final class Quarrel extends Kind {
        Quarrel(String title) {
            super(title);
        }

        int goesOn(int skill, int done, int dust) {
            return done == 99 ? 0 : 1;
        }

        int tires() {
            return 0;
        }

        int bid(int skill, int done, int dust) {
            return 20 - skill;
        }

        int asked(int done, int dust) {
            return 1;
        }
    }

    private static final class Bridge extends Boat {
        Bridge(String title) {
            super(title);
        }

        int goesOn(int skill, int done, int dust) {
            return super.goesOn(skill, done, dust) + 2;
        }

        int bid(int skill, int done, int dust) {
            return super.bid(skill, done, dust) + dust / 10;
        }
    }

    private static final class Letter extends Jersey {
        Letter(String title) {
            super(title);
        }

        int goesOn(int skill, int done, int dust) {
            int asJersey = super.goesOn(skill, done, dust);
            return dust > 10 ? 2 * asJersey : asJersey;
        }

        int tires() {
            return super.tires() - 1;
        }

        int asked(int done, int dust) {
            return super.asked(done, dust) + done / 10;
        }
    }

    /**
     * The year, the people and the things. Its methods trust their numbers: who calls has looked
     * whether there is such a thing or person, and nothing else ever comes into the rows.
     */
    private static final class Common {
        final Kind[] natures;
        final int[] skills = new int[PEOPLE];
        final int[] zeals = new int[PEOPLE];
        final int[] mades = new int[PEOPLE];
        final int[] kinds = new int[MOST_THINGS];
        final int[] dones = new int[MOST_THINGS];
        final int[] withs = new int[MOST_THINGS];
        final int[] dusts = new int[MOST_THINGS];
        /** How many unfinished things each one has, while a fair goes; no part of the state. */
        final int[] held = new int[PEOPLE];
        int year;
        int size;

        Common(Kind[] natures) {
            this.natures = natures;
            Arrays.fill(skills, FIRST_SKILL);
            Arrays.fill(zeals, FIRST_ZEAL);
        }

        void become(Common other) {
            System.arraycopy(other.skills, 0, skills, 0, PEOPLE);
            System.arraycopy(other.zeals, 0, zeals, 0, PEOPLE);
            System.arraycopy(other.mades, 0, mades, 0, PEOPLE);
            System.arraycopy(other.kinds, 0, kinds, 0, MOST_THINGS);
            System.arraycopy(other.dones, 0, dones, 0, MOST_THINGS);
            System.arraycopy(other.withs, 0, withs, 0, MOST_THINGS);
            System.arraycopy(other.dusts, 0, dusts, 0, MOST_THINGS);
            year = other.year;
            size = other.size;
        }

        boolean isFull() {
            return size >= MOST_THINGS;
        }

        void add(int kind, int done, int with, int dust) {
            if (isFull()) {
                return;
            }
            kinds[size] = kind;
            dones[size] = done;
            withs[size] = with;
            dusts[size] = dust;
            size++;
        }

        Kind natureOf(int thing) {
            return natures[kinds[thing]];
        }

        boolean isFinished(int thing) {
            return dones[thing] >= FINISHED;
        }

        boolean canBeLeft(int thing) {
            return withs[thing] != NOBODY && !isFinished(thing);
        }

        boolean isForTheFair(int thing) {
            return withs[thing] == NOBODY && !isFinished(thing);
        }

        /** To the common; only for a thing that canBeLeft. */
        void letGo(int thing) {
            zeals[withs[thing]] = FIRST_ZEAL;
            withs[thing] = NOBODY;
            dusts[thing] = 0;
        }

        void goYears(int n) {
            for (int i = 0; i < n; i++) {
                goYear();
            }
        }

        void goYear() {
            for (int thing = 0; thing < size; thing++) {
                if (canBeLeft(thing)) {
                    workOn(thing);
                }
            }
            countHeld();
            for (int thing = 0; thing < size; thing++) {
                if (isForTheFair(thing)) {
                    offer(thing);
                }
            }
            year++;
        }

        void workOn(int thing) {
            int who = withs[thing];
            Kind nature = natureOf(thing);
            int more = nature.goesOn(skills[who], dones[thing], dusts[thing]);
            dones[thing] = Math.min(FINISHED, dones[thing] + more);
            if (isFinished(thing)) {
                mades[who] = Math.min(MOST_MADE, mades[who] + 1);
                zeals[who] = Math.min(MOST_ZEAL, zeals[who] + 2);
                return;
            }
            zeals[who] -= nature.tires();
            if (zeals[who] <= 0) {
                letGo(thing);
            }
        }

        void countHeld() {
            Arrays.fill(held, 0);
            for (int thing = 0; thing < size; thing++) {
                if (canBeLeft(thing)) {
                    held[withs[thing]]++;
                }
            }
        }

        void offer(int thing) {
            dusts[thing] = Math.min(MOST_DUST, dusts[thing] + 1);
            int who = takerOf(thing);
            if (who != NOBODY) {
                withs[thing] = who;
                held[who]++;
            }
        }

        /** Who gets a thing of the common, after countHeld; NOBODY if nobody bids enough. */
        int takerOf(int thing) {
            Kind nature = natureOf(thing);
            int done = dones[thing];
            int dust = dusts[thing];
            int taker = NOBODY;
            int best = -1;
            for (int who = 0; who < PEOPLE; who++) {
                int bid = held[who] < MOST_HELD ? nature.bid(skills[who], done, dust) : -1;
                if (bid > best) {
                    taker = who;
                    best = bid;
                }
            }
            return best >= nature.asked(done, dust) ? taker : NOBODY;
        }

        int finishedSet() {
            int set = 0;
            for (int thing = 0; thing < size; thing++) {
                if (isFinished(thing)) {
                    set |= 1 << thing;
                }
            }
            return set;
        }

        boolean isAllFinished() {
            return finishedSet() == (1 << size) - 1;
        }

        /** The things with one, or on the common, finished or not. */
        int heldSet(int who) {
            int set = 0;
            for (int thing = 0; thing < size; thing++) {
                if (withs[thing] == who) {
                    set |= 1 << thing;
                }
            }
            return set;
        }

        int doneOfAll() {
            return sum(dones, size);
        }

        int dustOfAll() {
            return sum(dusts, size);
        }

        int madeOfAll() {
            return sum(mades, PEOPLE);
        }
    }

    /** The bytes fed so far, and the reader of the text that they are. */
    private static final class Tape {
        private static final int END = 0;
        private static final int WORD = 1;
        private static final int NUMBER = 2;
        private static final int SIGN = 3;
        private static final int STRAY = 4;
        private static final int BLANK = 32;
        private static final int SEMICOLON = 59;
        private static final int MOST_TOLD = 999;

        final Kind[] natures;
        final byte[] bytes = new byte[MOST_BYTES];
        int length;
        /** The token at hand: its sort, its first byte's place, the place behind it. */
        int sort;
        int place;
        int behind;

        Tape(Kind[] natures) {
            this.natures = natures;
        }

        boolean hasRoomFor(int n) {
            return length + n <= MOST_BYTES;
        }

        void append(int number, int n) {
            for (int left = n - 1; left >= 0 && length < MOST_BYTES; left--) {
                bytes[length] = (byte) (number >> (8 * left));
                length++;
            }
        }

        /** The items come to a common: how many; with a fault -1 less its place. */
        int tellTo(Common common) {
            behind = 0;
            nextToken();
            for (int items = 1; items <= MOST_BYTES; items++) {
                if (!takeItem(common)) {
                    return -1 - place;
                }
                if (sort == END) {
                    return items;
                }
                if (sort != SIGN) {
                    return -1 - place;
                }
                nextToken();
            }
            return -1 - place;
        }

        // Each take moves past what it takes, or stays at the token that can't stand there.

        boolean takeItem(Common common) {
            int kind = kindAtHand();
            if (kind >= 0) {
                return takeThing(common, kind);
            }
            if (isAtWord("skill")) {
                return takeTrait(common.skills, MOST_SKILL);
            }
            if (isAtWord("zeal")) {
                return takeTrait(common.zeals, MOST_ZEAL);
            }
            return false;
        }

        boolean takeThing(Common common, int kind) {
            if (common.isFull()) {
                return false;
            }
            nextToken();
            int done = takeNumber(FINISHED - 1);
            if (done < 0) {
                return false;
            }
            int with = NOBODY;
            if (isAtWord("by")) {
                nextToken();
                with = takeNumber(PEOPLE - 1);
                if (with < 0) {
                    return false;
                }
            }
            int dust = 0;
            if (isAtWord("dust")) {
                nextToken();
                dust = takeNumber(MOST_DUST);
                if (dust < 0) {
                    return false;
                }
            }
            common.add(kind, done, with, dust);
            return true;
        }

        boolean takeTrait(int[] row, int most) {
            nextToken();
            int who = takeNumber(PEOPLE - 1);
            if (who < 0 || who >= row.length) {
                return false;
            }
            int trait = takeNumber(most);
            if (trait < 0) {
                return false;
            }
            row[who] = trait;
            return true;
        }

        /** The number at hand; -1 if there is none, or it is above most. */
        int takeNumber(int most) {
            int number = sort == NUMBER ? valueAtHand() : -1;
            if (number < 0 || number > most) {
                return -1;
            }
            nextToken();
            return number;
        }

        int kindAtHand() {
            for (int kind = 0; kind < natures.length; kind++) {
                if (isAtWord(natures[kind].title)) {
                    return kind;
                }
            }
            return -1;
        }

        boolean isAtWord(String word) {
            if (sort != WORD || behind - place != word.length()) {
                return false;
            }
            for (int i = 0; i < word.length(); i++) {
                if (bytes[place + i] != word.charAt(i)) {
                    return false;
                }
            }
            return true;
        }

        void nextToken() {
            place = behind;
            while (place < length && bytes[place] == BLANK) {
                place++;
            }
            sort = place < length ? sortOf(bytes[place]) : END;
            behind = sort == END ? place : place + 1;
            if (sort == WORD || sort == NUMBER) {
                while (behind < length && sortOf(bytes[behind]) == sort) {
                    behind++;
                }
            }
        }

        static int sortOf(int b) {
            if (b >= 'a' && b <= 'z') {
                return WORD;
            }
            if (b >= '0' && b <= '9') {
                return NUMBER;
            }
            return b == SEMICOLON ? SIGN : STRAY;
        }

        /** Held just above what any number may be, so that no row of digits wraps around. */
        int valueAtHand() {
            int value = 0;
            for (int i = place; i < behind; i++) {
                value = Math.min(MOST_TOLD + 1, 10 * value + bytes[i] - '0');
            }
            return value;
        }
    }

    /** A row of numbers of so many bits, with their sign; of 0 bits while it is missing. */
    private static final class Sheet {
        final long[] numbers = new long[MOST_NUMBERS];
        int bits;
        int length;

        void begin(int width, int n) {
            bits = width;
            length = width == 0 ? 0 : n;
            Arrays.fill(numbers, 0L);
        }

        boolean isMissing() {
            return bits == 0;
        }

        /** The caller has looked at the index. */
        void put(int i, long v) {
            numbers[i] = bits == 8 ? (byte) v : bits == 16 ? (short) v : v;
        }

        boolean hasSpan(int from, int n) {
            return from >= 0 && n >= 0 && n <= length && from <= length - n;
        }
    }
}
