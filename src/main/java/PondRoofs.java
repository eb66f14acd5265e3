import java.util.NoSuchElementException;

/** A hot town roofed by ponds: its texts, its days, what would be, and what is asked of it. */
public final class PondRoofs {
    public static final int NONE = -1;
    public static final int HIDDEN = -1000000;

    private static final int MOST_PONDS = 7;
    private static final int MOST_PIPES = 9;
    private static final int MOST_BYTES = 240;
    private static final int MOST_TEXTS = 4;
    private static final int MOST_STEPS = 16;
    private static final int MOST_NESTED = 6;
    private static final int MOST_MEASURED = 10;
    private static final int MOST_AHEAD = 60;
    private static final int MOST_PLANNED = 9;
    private static final int MOST_CARP = 99;
    private static final int MOST_PIKES = 9;
    private static final int MOST_BY_HAND = 9;
    private static final int MOST_HIDDEN_FLOW = 9;
    private static final int LAST_DAY = 9999;
    private static final int LOG_LENGTH = 60;
    private static final int ACTS_LENGTH = 40;

    private static final int NO_SUCH_SORT = -2;
    private static final int TOWN_SORT = 0;
    private static final int LAW_SORT = 1;
    private static final int PLAN_SORT = 2;
    private static final int END = -1;

    private static final String SKY_LETTERS = "rdm";
    private static final int[] SKY_LOWEST = {0, 0, 0};
    private static final int[] SKY_HIGHEST = {9, 9, 9};
    private static final int[] SKY_UNTOLD = {0, 1, 5};
    private static final int RAIN = 0;
    private static final int DRIES = 1;
    private static final int BREEDS = 2;

    private static final String POND_LETTERS = "wcbneklfg";
    private static final int[] POND_LOWEST = {0, 1, 0, 0, 0, 0, 0, 0, 0};
    private static final int[] POND_HIGHEST = {99, 99, 9, 99, 9, 99, 99, 99, 9};
    private static final int[] POND_UNTOLD = {30, 60, 0, 10, 0, 50, 25, 0, 0};
    private static final int WATER = 0;
    private static final int CAPACITY = 1;
    private static final int BED = 2;
    private static final int NEED = 3;
    private static final int LEAK = 4;
    private static final int WALL = 5;
    private static final int LIGHT = 6;
    private static final int CARP = 7;
    private static final int PIKES = 8;
    private static final int LEVEL = 9;

    private static final String PIPE_LETTERS = "abmho";
    private static final int[] PIPE_LOWEST = {0, 0, 1, 0, 0};
    private static final int[] PIPE_HIGHEST = {6, 6, 9, 99, 1};
    private static final int[] PIPE_UNTOLD = {0, 1, 3, 0, 0};
    private static final int ONE_END = 0;
    private static final int OTHER_END = 1;
    private static final int MOST = 2;
    private static final int MOUTH = 3;
    private static final int OPEN = 4;
    private static final int FLOWS = 5;

    private static final String STEP_LETTERS = "ocdw";
    private static final int OPENED = 0;
    private static final int CLOSED = 1;
    private static final int WAITED = 2;
    private static final int POURED = 3;

    private final Tape tape;
    private final Town town;
    private final Town townTried;
    private final LawReader lawReader;
    private final Course course;
    private final Plan[] plans;
    private final Plan planTried;
    private int planCount;
    private final Waters now;
    private final Chronicle chronicle;
    private final Acts acts;
    private final Waters imageWaters;
    private final Chronicle imageChronicle;
    private boolean imaged;
    private final Measures measures;
    private final Outlook outlook;
    private int storm;
    private int pike;
    private long draws;

    public PondRoofs() {
        tape = new Tape();
        town = new Town();
        townTried = new Town();
        lawReader = new LawReader(tape);
        course = new Course(town);
        plans = new Plan[MOST_TEXTS];
        for (int i = 0; i < MOST_TEXTS; i++) {
            plans[i] = new Plan();
        }
        planTried = new Plan();
        now = new Waters();
        chronicle = new Chronicle();
        acts = new Acts();
        imageWaters = new Waters();
        imageChronicle = new Chronicle();
        measures = new Measures(town);
        outlook = new Outlook(town, course, now);
        storm = 20;
    }

    public int feed(int a, int b, int c, int d, int e) {
        int more = Tape.filledBytes(a) + Tape.filledBytes(b) + Tape.filledBytes(c)
                + Tape.filledBytes(d) + Tape.filledBytes(e);
        if (tape.length + more > MOST_BYTES) {
            return NONE;
        }
        tape.put(a);
        tape.put(b);
        tape.put(c);
        tape.put(d);
        tape.put(e);
        return tape.length;
    }

    public boolean end(int n) {
        if (n < 0 || n > tape.length) {
            return false;
        }
        tape.length = n;
        return true;
    }

    public int fault(int sort) {
        boolean stands;
        switch (sort) {
            case TOWN_SORT:
                stands = townTried.readFrom(tape);
                break;
            case LAW_SORT:
                stands = lawReader.readLaw();
                break;
            case PLAN_SORT:
                stands = planTried.readFrom(tape);
                break;
            default:
                return NO_SUCH_SORT;
        }
        return stands ? NONE : tape.at;
    }

    public int text(int sort) {
        switch (sort) {
            case TOWN_SORT:
                return settleTown();
            case LAW_SORT:
                return keepLaw();
            case PLAN_SORT:
                return keepPlan();
            default:
                return NONE;
        }
    }

    public int sky(int what) {
        if (!town.isTold() || what < 0 || what >= town.sky.length) {
            return NONE;
        }
        return town.sky[what];
    }

    public int pond(int pond, int what) throws NoSuchElementException {
        if (!town.hasPond(pond) || what < WATER || what > LEVEL) {
            throw new NoSuchElementException();
        }
        switch (what) {
            case WATER:
                return now.water[pond];
            case CARP:
                return now.carp[pond];
            case PIKES:
                return now.pikes[pond];
            case LEVEL:
                return town.ponds[pond][BED] + now.water[pond];
            default:
                return town.ponds[pond][what];
        }
    }

    public int pipe(int pipe, int what) {
        if (!town.hasPipe(pipe) || what < ONE_END || what > FLOWS) {
            return NONE;
        }
        switch (what) {
            case OPEN:
                return now.isOpen(pipe) ? 1 : 0;
            case FLOWS:
                return course.flowThrough(pipe, now);
            default:
                return town.pipes[pipe][what];
        }
    }

    public boolean law(int law) {
        if (law < NONE || law >= course.lawCount) {
            return false;
        }
        course.holds = law;
        return true;
    }

    public boolean odds(int what, int v) {
        if (v < 0 || v > 99) {
            return false;
        }
        if (what == 0 && v != storm) {
            storm = v;
            return true;
        }
        if (what == 1 && v != pike) {
            pike = v;
            return true;
        }
        return false;
    }

    public boolean key(int pipe, boolean open) {
        return act(open ? OPENED : CLOSED, pipe, 0);
    }

    public int pour(int pond, int n) {
        if (n > MOST_BY_HAND || !act(POURED, pond, n)) {
            return NONE;
        }
        return now.water[pond];
    }

    public int stock(int pond, int n) {
        if (!town.hasPond(pond) || n < 0 || n > MOST_BY_HAND) {
            return NONE;
        }
        int[] row = n == 0 ? now.pikes : now.carp;
        int more = n == 0 ? 1 : n;
        int most = n == 0 ? MOST_PIKES : MOST_CARP;
        if (row[pond] + more > most) {
            return NONE;
        }
        acts.remember(now, chronicle);
        row[pond] += more;
        return row[pond];
    }

    public int days(int n) {
        return n <= MOST_AHEAD && act(WAITED, n, 0) ? now.day : NONE;
    }

    public int years(int n, long seed) {
        if (n > MOST_AHEAD || !outlook.canBe(WAITED, n, 0, now)) {
            return NONE;
        }
        draws = seed;
        for (int i = 0; i < n; i++) {
            acts.remember(now, chronicle);
            passDay(town.sky[RAIN] + rainOfDraws());
        }
        return now.day;
    }

    public int undo() {
        return acts.takeBack(now, chronicle) ? acts.kept : NONE;
    }

    public int log(int i, int what) {
        return chronicle.entry(i, what);
    }

    public int step(int plan, int i, int what) {
        if (!hasPlan(plan) || i < 0 || i >= plans[plan].size || what < 0 || what > 2) {
            return HIDDEN;
        }
        return plans[plan].partOfStep(i, what);
    }

    public int run(int plan, int what) {
        if (!hasPlan(plan) || !town.isTold() || what < 0 || what > 1) {
            return HIDDEN;
        }
        int behind = outlook.stepsThatCanBe(plans[plan]);
        if (what == 1) {
            return town.bareAmong(outlook.would);
        }
        return behind == plans[plan].size ? NONE : behind;
    }

    public int perform(int plan) {
        if (!hasPlan(plan) || !town.isTold()) {
            return NONE;
        }
        Plan performed = plans[plan];
        for (int i = 0; i < performed.size; i++) {
            if (!act(performed.kinds[i], performed.firsts[i], performed.seconds[i])) {
                return i;
            }
        }
        return performed.size;
    }

    public int ahead(int pond, int n) {
        if (!town.hasPond(pond) || n < 0 || n > MOST_AHEAD) {
            return NONE;
        }
        return outlook.after(n, now.open).water[pond];
    }

    public int dries(int pond) {
        return town.hasPond(pond) ? outlook.daysUntilDry(pond) : NONE;
    }

    public int bare() {
        return town.isTold() ? town.bareAmong(now) : NONE;
    }

    public int keys(int n) {
        return isPlannable(n) ? outlook.fewestKeys(n) : NONE;
    }

    public int kept(int n, int what) {
        if (!isPlannable(n) || what < 0 || what > 1) {
            return NONE;
        }
        int set = outlook.keysThatKeepMost(n);
        if (what == 1) {
            return set;
        }
        return town.pondCount - Integer.bitCount(town.bareAmong(outlook.after(n, set)));
    }

    public int cut(int n) {
        return isPlannable(n) ? outlook.fewestThatLack(n) : NONE;
    }

    public int rest(int pond) {
        return town.hasPond(pond) ? outlook.levelOfRest(pond) : NONE;
    }

    public int joined(int pond) {
        return town.hasPond(pond) ? town.groupOf(pond, now.open) : NONE;
    }

    public int apart() {
        return town.isTold() ? outlook.mostOpenApart() : NONE;
    }

    public int measured(int pond, int x) {
        if (!town.hasPond(pond) || x < -MOST_HIDDEN_FLOW || x > MOST_HIDDEN_FLOW) {
            return NONE;
        }
        return measures.add(pond, x) ? measures.size : NONE;
    }

    public int secret(int i) {
        if (!town.isTold() || i < NONE) {
            return NONE;
        }
        return i == NONE ? measures.waysThatFit() : measures.wayThatFits(i);
    }

    public int measure() {
        return town.isTold() ? measures.nextToMeasure() : NONE;
    }

    public int walls() {
        return town.isTold() ? outlook.wallsThatGive() : NONE;
    }

    public int feud(int one, int other, int first, int second, int n, int x, int y) {
        if (!isFeud(one, other, first, second, n) || x < 0 || x > 1 || y < 0 || y > 1) {
            return HIDDEN;
        }
        return outlook.gapAfter(one, other, n, outlook.keysOfFeud(first, second, x, y));
    }

    public int rests(int one, int other, int first, int second, int n, int i) {
        if (!isFeud(one, other, first, second, n) || i < NONE) {
            return NONE;
        }
        for (int choice = 0; choice < outlook.gaps.length; choice++) {
            int open = outlook.keysOfFeud(first, second, choice >> 1, choice & 1);
            outlook.gaps[choice] = outlook.gapAfter(one, other, n, open);
        }
        return outlook.restAmongGaps(i);
    }

    public int reads(int n) {
        if (!town.isTold() || n < 0 || n > MOST_AHEAD) {
            return NONE;
        }
        return town.litAmong(outlook.after(n, now.open));
    }

    public int darkest() {
        return town.isTold() ? outlook.darkestPond() : NONE;
    }

    public int rent(int pond) {
        return town.hasPond(pond) ? outlook.rentOf(pond) : HIDDEN;
    }

    public int trend(int pond) {
        if (!town.hasPond(pond)) {
            return HIDDEN;
        }
        return outlook.after(1, now.open).water[pond] - now.water[pond];
    }

    public int shares() {
        return town.isTold() ? outlook.groups() : NONE;
    }

    public int largest() {
        return town.isTold() ? outlook.fullestPipe() : NONE;
    }

    public int eaten(int n) {
        if (!town.isTold() || n < 1 || n > MOST_AHEAD) {
            return HIDDEN;
        }
        return Waters.sumOf(now.carp) - Waters.sumOf(outlook.after(n, now.open).carp);
    }

    public int image() {
        if (!town.isTold()) {
            return NONE;
        }
        imageWaters.become(now);
        imageChronicle.become(chronicle);
        imaged = true;
        return now.day;
    }

    public int back() {
        if (!imaged) {
            return NONE;
        }
        now.become(imageWaters);
        chronicle.become(imageChronicle);
        acts.forget();
        return now.day;
    }

    public int count(int what) {
        switch (what) {
            case 0: return town.pondCount;
            case 1: return town.pipeCount;
            case 2: return course.lawCount;
            case 3: return planCount;
            case 4: return tape.length;
            case 5: return course.holds;
            case 6: return now.day;
            case 7: return Waters.sumOf(now.water);
            case 8: return Waters.sumOf(now.carp);
            case 9: return Waters.sumOf(now.pikes);
            case 10: return now.over;
            case 11: return Waters.sumOf(now.water) - town.sumOfPonds(NEED);
            case 12: return town.sumOfPonds(CAPACITY) - Waters.sumOf(now.water);
            case 13: return storm;
            case 14: return pike;
            case 15: return now.open;
            case 16: return measures.size;
            case 17: return chronicle.length();
            case 18: return acts.kept;
            default: return HIDDEN;
        }
    }

    private int settleTown() {
        if (!townTried.readFrom(tape)) {
            return NONE;
        }
        town.become(townTried);
        tape.length = 0;
        now.begin(town);
        chronicle.total = 0;
        acts.forget();
        measures.size = 0;
        imaged = false;
        return town.pondCount;
    }

    private int keepLaw() {
        if (course.lawCount >= MOST_TEXTS || !lawReader.readLaw()) {
            return NONE;
        }
        course.laws[course.lawCount].become(lawReader.law);
        course.lawCount++;
        tape.length = 0;
        return course.lawCount - 1;
    }

    private int keepPlan() {
        if (planCount >= MOST_TEXTS || !planTried.readFrom(tape)) {
            return NONE;
        }
        plans[planCount].become(planTried);
        planCount++;
        tape.length = 0;
        return planCount - 1;
    }

    private boolean hasPlan(int plan) {
        return plan >= 0 && plan < planCount;
    }

    private boolean isPlannable(int n) {
        return town.isTold() && n >= 1 && n <= MOST_PLANNED;
    }

    private boolean isFeud(int one, int other, int first, int second, int n) {
        return town.hasPond(one) && town.hasPond(other) && one != other
                && town.hasPipe(first) && town.hasPipe(second) && isPlannable(n);
    }

    /** One step by hand or of a plan; a step of days is an act a day. */
    private boolean act(int kind, int first, int second) {
        if (!outlook.canBe(kind, first, second, now)) {
            return false;
        }
        if (kind != WAITED) {
            acts.remember(now, chronicle);
            now.take(kind, first, second);
            return true;
        }
        for (int i = 0; i < first; i++) {
            acts.remember(now, chronicle);
            passDay(town.sky[RAIN]);
        }
        return true;
    }

    private void passDay(int rain) {
        course.passDay(now, rain);
        chronicle.add(Waters.sumOf(now.water), town.bareAmong(now), Waters.sumOf(now.carp));
    }

    /** What is drawn ahead of a day: the rain that comes on top, or else perhaps a pike. */
    private int rainOfDraws() {
        if (draw(100) < storm) {
            return draw(10);
        }
        if (draw(100) < pike) {
            int pond = draw(town.pondCount);
            if (now.pikes[pond] < MOST_PIKES) {
                now.pikes[pond]++;
            }
        }
        return 0;
    }

    private int draw(int m) {
        draws = draws * 6364136223846793005L + 1442695040888963407L;
        return m < 1 ? 0 : (int) ((draws >>> 33) % m);
    }

    /** The bytes fed, and the place up to which a reader has come: where it stops is the fault. */
    private static final class Tape {
        final int[] bytes = new int[MOST_BYTES];
        int length;
        int at;

        static int filledBytes(int word) {
            int filled = 0;
            for (int shift = 0; shift < 32; shift += 8) {
                if ((word >>> shift & 255) != 0) {
                    filled++;
                }
            }
            return filled;
        }

        void put(int word) {
            for (int shift = 24; shift >= 0; shift -= 8) {
                int sign = word >>> shift & 255;
                if (sign != 0 && length < bytes.length) {
                    bytes[length] = sign;
                    length++;
                }
            }
        }

        /** The next sign behind blanks, or END. */
        int look() {
            while (at < length && bytes[at] == ' ') {
                at++;
            }
            return at < length ? bytes[at] : END;
        }

        boolean take(int sign) {
            if (look() != sign) {
                return false;
            }
            at++;
            return true;
        }

        boolean isOnDigit() {
            return at < length && bytes[at] >= '0' && bytes[at] <= '9';
        }

        /** A number of so many digits at most; NONE where there is none or a digit too many. */
        int takeNumber(int most) {
            look();
            if (!isOnDigit()) {
                return NONE;
            }
            int value = 0;
            for (int digits = 0; digits <= most && isOnDigit(); digits++) {
                if (digits == most) {
                    return NONE;
                }
                value = value * 10 + bytes[at] - '0';
                at++;
            }
            return value;
        }

        /** A single digit: unlike in a number, another one may follow behind blanks. */
        int takeDigit() {
            look();
            if (!isOnDigit()) {
                return NONE;
            }
            at++;
            return bytes[at - 1] - '0';
        }
    }

    /** What a town's text tells and no day changes: each row holds the items in their letters' order. */
    private static final class Town {
        final int[] sky = new int[SKY_LETTERS.length()];
        final int[][] ponds = new int[MOST_PONDS][POND_LETTERS.length()];
        final int[][] pipes = new int[MOST_PIPES][PIPE_LETTERS.length()];
        int skyCount;
        int pondCount;
        int pipeCount;

        boolean isTold() {
            return pondCount > 0;
        }

        boolean hasPond(int pond) {
            return pond >= 0 && pond < pondCount;
        }

        boolean hasPipe(int pipe) {
            return pipe >= 0 && pipe < pipeCount;
        }

        void become(Town other) {
            copyRow(other.sky, sky);
            for (int i = 0; i < MOST_PONDS; i++) {
                copyRow(other.ponds[i], ponds[i]);
            }
            for (int i = 0; i < MOST_PIPES; i++) {
                copyRow(other.pipes[i], pipes[i]);
            }
            pondCount = other.pondCount;
            pipeCount = other.pipeCount;
        }

        boolean readFrom(Tape tape) {
            tape.at = 0;
            skyCount = 0;
            pondCount = 0;
            pipeCount = 0;
            copyRow(SKY_UNTOLD, sky);
            for (int clauses = 0; clauses <= MOST_BYTES; clauses++) {
                if (!readClause(tape)) {
                    return false;
                }
                if (tape.look() == END) {
                    return stands();
                }
                if (!tape.take(';')) {
                    return false;
                }
            }
            return false;
        }

        private boolean readClause(Tape tape) {
            int sign = tape.look();
            if (sign == 's' && skyCount < 1) {
                tape.at++;
                skyCount++;
                return readItems(tape, SKY_LETTERS, SKY_LOWEST, SKY_HIGHEST, sky);
            }
            if (sign == 'p' && pondCount < MOST_PONDS) {
                tape.at++;
                copyRow(POND_UNTOLD, ponds[pondCount]);
                pondCount++;
                return readItems(tape, POND_LETTERS, POND_LOWEST, POND_HIGHEST, ponds[pondCount - 1]);
            }
            if (sign == 'i' && pipeCount < MOST_PIPES) {
                tape.at++;
                copyRow(PIPE_UNTOLD, pipes[pipeCount]);
                pipeCount++;
                return readItems(tape, PIPE_LETTERS, PIPE_LOWEST, PIPE_HIGHEST, pipes[pipeCount - 1]);
            }
            return false;
        }

        private static boolean readItems(Tape tape, String letters, int[] lowest, int[] highest, int[] row) {
            int told = 0;
            for (int items = 0; items <= row.length; items++) {
                int sign = tape.look();
                if (sign == END || sign == ';') {
                    return true;
                }
                int item = letters.indexOf((char) sign);
                if (item < 0 || item >= row.length || (told >> item & 1) != 0) {
                    return false;
                }
                told |= 1 << item;
                tape.at++;
                row[item] = tape.takeNumber(2);
                if (row[item] == NONE) {
                    return false;
                }
                if (row[item] < lowest[item] || row[item] > highest[item]) {
                    tape.at--;
                    return false;
                }
            }
            return false;
        }

        /** What only a whole text shows: the reader is at its end then. */
        private boolean stands() {
            for (int i = 0; i < pondCount; i++) {
                if (ponds[i][WATER] > ponds[i][CAPACITY]) {
                    return false;
                }
            }
            for (int i = 0; i < pipeCount; i++) {
                int one = pipes[i][ONE_END];
                int other = pipes[i][OTHER_END];
                if (!hasPond(one) || !hasPond(other) || one == other) {
                    return false;
                }
            }
            return isTold();
        }

        int sumOfPonds(int item) {
            int sum = 0;
            for (int i = 0; i < pondCount; i++) {
                sum += ponds[i][item];
            }
            return sum;
        }

        int bareAmong(Waters waters) {
            int bits = 0;
            for (int i = 0; i < pondCount; i++) {
                if (waters.water[i] < ponds[i][NEED]) {
                    bits |= 1 << i;
                }
            }
            return bits;
        }

        int litAmong(Waters waters) {
            int bits = 0;
            for (int i = 0; i < pondCount; i++) {
                if (waters.water[i] <= ponds[i][LIGHT]) {
                    bits |= 1 << i;
                }
            }
            return bits;
        }

        /** The ponds joined with one by the pipes of a set: as many rounds as there are ponds reach all. */
        int groupOf(int pond, int open) {
            int group = 1 << pond;
            for (int round = 1; round < pondCount; round++) {
                for (int i = 0; i < pipeCount; i++) {
                    int ends = 1 << pipes[i][ONE_END] | 1 << pipes[i][OTHER_END];
                    if ((open >> i & 1) != 0 && (group & ends) != 0) {
                        group |= ends;
                    }
                }
            }
            return group;
        }

        private static void copyRow(int[] from, int[] to) {
            System.arraycopy(from, 0, to, 0, Math.min(from.length, to.length));
        }
    }

    /** A law as a row of signs to be worked off with a stack: numbers as they are, all else below 0. */
    private static final class Law {
        static final String LETTERS = "dmwhlt";
        static final int LOWEST_LETTER = -6;
        static final int ADD = -11;
        static final int TAKE_AWAY = -12;
        static final int TIMES = -13;
        static final int DIVIDE = -14;
        static final int ALIKE = -15;
        static final int BELOW = -16;
        static final int ABOVE = -17;
        static final int NOT = -18;
        static final int AND = -19;
        static final int OR = -20;
        static final int SKIP_UNLESS = -21;
        static final int ANSWER = -22;
        static final int FARTHEST = 1000000;

        final int[] signs = new int[MOST_BYTES];
        int size;
        private final int[] letters = new int[LETTERS.length()];
        private final int[] stack = new int[64];

        void become(Law other) {
            System.arraycopy(other.signs, 0, signs, 0, signs.length);
            size = other.size;
        }

        void put(int sign) {
            if (size < signs.length) {
                signs[size] = sign;
                size++;
            }
        }

        void putLetter(int letter) {
            put(-1 - letter);
        }

        /** The place that is set at last to where the clause ends. */
        int putSkip() {
            put(SKIP_UNLESS);
            put(0);
            return size - 1;
        }

        void endSkip(int place) {
            if (place >= 0 && place < signs.length) {
                signs[place] = size;
            }
        }

        int worth(int d, int m, int w, int h, int l, int t) {
            letters[0] = d;
            letters[1] = m;
            letters[2] = w;
            letters[3] = h;
            letters[4] = l;
            letters[5] = t;
            int top = 0;
            for (int at = 0; at < size && top < stack.length; at++) {
                int sign = signs[at];
                if (sign >= LOWEST_LETTER) {
                    stack[top] = sign >= 0 ? sign : letters[-1 - sign];
                    top++;
                } else if (top < 1) {
                    return 0;
                } else if (sign == ANSWER) {
                    return stack[top - 1];
                } else if (sign == NOT) {
                    stack[top - 1] = 1 - stack[top - 1];
                } else if (sign == SKIP_UNLESS) {
                    at++;
                    top--;
                    if (stack[top] == 0 && at < size && signs[at] > at) {
                        at = signs[at] - 1;
                    }
                } else if (top >= 2) {
                    top--;
                    stack[top - 1] = worked(sign, stack[top - 1], stack[top]);
                }
            }
            return 0;
        }

        private static int worked(int sign, long a, long b) {
            long result;
            switch (sign) {
                case ADD:
                    result = a + b;
                    break;
                case TAKE_AWAY:
                    result = a - b;
                    break;
                case TIMES:
                    result = a * b;
                    break;
                case DIVIDE:
                    result = b == 0 ? 0 : a / b;
                    break;
                case ALIKE:
                    return a == b ? 1 : 0;
                case BELOW:
                    return a < b ? 1 : 0;
                case ABOVE:
                    return a > b ? 1 : 0;
                case AND:
                    return a != 0 && b != 0 ? 1 : 0;
                default:
                    return a != 0 || b != 0 ? 1 : 0;
            }
            if (result > FARTHEST) {
                return FARTHEST;
            }
            return result < -FARTHEST ? -FARTHEST : (int) result;
        }
    }

    /** Reads a law's text sort by sort; depth is how many of ( [ ! are open. */
    private static final class LawReader {
        final Law law = new Law();
        private final Tape tape;

        LawReader(Tape tape) {
            this.tape = tape;
        }

        boolean readLaw() {
            tape.at = 0;
            law.size = 0;
            for (int clauses = 0; clauses <= MOST_BYTES; clauses++) {
                if (!readClause()) {
                    return false;
                }
                if (tape.look() == END) {
                    return true;
                }
                if (!tape.take(';')) {
                    return false;
                }
            }
            return false;
        }

        /** Only behind its first sum does a clause show whether that begins a condition. */
        private boolean readClause() {
            if (!tape.take('y') || !tape.take(':')) {
                return false;
            }
            int sign = tape.look();
            boolean startsWithSum = sign != '!' && sign != '(';
            if (startsWithSum) {
                if (!readSum(0)) {
                    return false;
                }
                if (comparison() == 0) {
                    law.put(Law.ANSWER);
                    return true;
                }
            }
            return readUnit(0, startsWithSum) && readMoreTruths(0) && readAnswer();
        }

        private boolean readAnswer() {
            if (!tape.take('?')) {
                return false;
            }
            int skip = law.putSkip();
            if (!readSum(0)) {
                return false;
            }
            law.put(Law.ANSWER);
            law.endSkip(skip);
            return true;
        }

        private boolean readMoreTruths(int depth) {
            if (!readMoreUnits(depth)) {
                return false;
            }
            for (int truths = 0; truths < MOST_BYTES && tape.take('|'); truths++) {
                if (!readUnit(depth, false) || !readMoreUnits(depth)) {
                    return false;
                }
                law.put(Law.OR);
            }
            return true;
        }

        private boolean readMoreUnits(int depth) {
            for (int units = 0; units < MOST_BYTES && tape.take('&'); units++) {
                if (!readUnit(depth, false)) {
                    return false;
                }
                law.put(Law.AND);
            }
            return true;
        }

        private boolean readUnit(int depth, boolean behindItsSum) {
            int sign = tape.look();
            if (!behindItsSum && (sign == '!' || sign == '(')) {
                return depth < MOST_NESTED && readNested(depth + 1, sign);
            }
            if (!behindItsSum && !readSum(depth)) {
                return false;
            }
            int compared = comparison();
            if (compared == 0) {
                return false;
            }
            tape.at++;
            if (!readSum(depth)) {
                return false;
            }
            law.put(compared);
            return true;
        }

        private boolean readNested(int depth, int sign) {
            tape.at++;
            if (!readUnit(depth, false)) {
                return false;
            }
            if (sign == '(') {
                return readMoreTruths(depth) && tape.take(')');
            }
            law.put(Law.NOT);
            return true;
        }

        private int comparison() {
            switch (tape.look()) {
                case '=': return Law.ALIKE;
                case '<': return Law.BELOW;
                case '>': return Law.ABOVE;
                default: return 0;
            }
        }

        private boolean readSum(int depth) {
            if (!readTerm(depth)) {
                return false;
            }
            for (int terms = 0; terms < MOST_BYTES; terms++) {
                int sign = tape.look();
                if (sign != '+' && sign != '-') {
                    return true;
                }
                tape.at++;
                if (!readTerm(depth)) {
                    return false;
                }
                law.put(sign == '+' ? Law.ADD : Law.TAKE_AWAY);
            }
            return false;
        }

        private boolean readTerm(int depth) {
            if (!readAtom(depth)) {
                return false;
            }
            for (int atoms = 0; atoms < MOST_BYTES; atoms++) {
                int sign = tape.look();
                if (sign != '*' && sign != '/') {
                    return true;
                }
                tape.at++;
                if (!readAtom(depth)) {
                    return false;
                }
                law.put(sign == '*' ? Law.TIMES : Law.DIVIDE);
            }
            return false;
        }

        private boolean readAtom(int depth) {
            int sign = tape.look();
            if (sign == '[') {
                if (depth >= MOST_NESTED) {
                    return false;
                }
                tape.at++;
                return readSum(depth + 1) && tape.take(']');
            }
            int letter = sign == END ? NONE : Law.LETTERS.indexOf((char) sign);
            if (letter >= 0) {
                tape.at++;
                law.putLetter(letter);
                return true;
            }
            int number = tape.takeNumber(4);
            law.put(number);
            return number != NONE;
        }
    }

    /** The steps of a plan. */
    private static final class Plan {
        final int[] kinds = new int[MOST_STEPS];
        final int[] firsts = new int[MOST_STEPS];
        final int[] seconds = new int[MOST_STEPS];
        int size;

        void become(Plan other) {
            System.arraycopy(other.kinds, 0, kinds, 0, MOST_STEPS);
            System.arraycopy(other.firsts, 0, firsts, 0, MOST_STEPS);
            System.arraycopy(other.seconds, 0, seconds, 0, MOST_STEPS);
            size = other.size;
        }

        boolean readFrom(Tape tape) {
            tape.at = 0;
            size = 0;
            for (int i = 0; i < MOST_STEPS; i++) {
                if (!readStep(tape, i)) {
                    return false;
                }
                size++;
                if (tape.look() == END) {
                    return true;
                }
                if (size == MOST_STEPS || !tape.take(';')) {
                    return false;
                }
            }
            return false;
        }

        private boolean readStep(Tape tape, int i) {
            int sign = tape.look();
            int kind = sign == END ? NONE : STEP_LETTERS.indexOf((char) sign);
            if (kind < 0) {
                return false;
            }
            tape.at++;
            kinds[i] = kind;
            firsts[i] = tape.takeDigit();
            seconds[i] = NONE;
            if (firsts[i] == NONE || kind != POURED) {
                return firsts[i] != NONE;
            }
            seconds[i] = tape.takeDigit();
            return seconds[i] != NONE;
        }

        int partOfStep(int i, int what) {
            switch (what) {
                case 0: return kinds[i];
                case 1: return firsts[i];
                default: return seconds[i];
            }
        }
    }

    /** All that days and hands change in a town, the log apart. */
    private static final class Waters {
        static final int ROW = 3 * MOST_PONDS + 3;

        final int[] water = new int[MOST_PONDS];
        final int[] carp = new int[MOST_PONDS];
        final int[] pikes = new int[MOST_PONDS];
        int open;
        int over;
        int day;

        static int sumOf(int[] row) {
            int sum = 0;
            for (int i = 0; i < row.length; i++) {
                sum += row[i];
            }
            return sum;
        }

        boolean isOpen(int pipe) {
            return (open >> pipe & 1) != 0;
        }

        void begin(Town town) {
            for (int i = 0; i < MOST_PONDS; i++) {
                boolean told = town.hasPond(i);
                water[i] = told ? town.ponds[i][WATER] : 0;
                carp[i] = told ? town.ponds[i][CARP] : 0;
                pikes[i] = told ? town.ponds[i][PIKES] : 0;
            }
            open = 0;
            for (int i = 0; i < town.pipeCount; i++) {
                open |= town.pipes[i][OPEN] << i;
            }
            over = 0;
            day = 0;
        }

        void become(Waters other) {
            System.arraycopy(other.water, 0, water, 0, MOST_PONDS);
            System.arraycopy(other.carp, 0, carp, 0, MOST_PONDS);
            System.arraycopy(other.pikes, 0, pikes, 0, MOST_PONDS);
            open = other.open;
            over = other.over;
            day = other.day;
        }

        /** A step that can be and is none of days. */
        void take(int kind, int first, int second) {
            if (kind == OPENED) {
                open |= 1 << first;
            } else if (kind == CLOSED) {
                open &= ~(1 << first);
            } else if (kind == POURED && first >= 0 && first < MOST_PONDS) {
                water[first] += second;
            }
        }

        void writeTo(int[] rows, int at) {
            if (at < 0 || at + ROW > rows.length) {
                return;
            }
            System.arraycopy(water, 0, rows, at, MOST_PONDS);
            System.arraycopy(carp, 0, rows, at + MOST_PONDS, MOST_PONDS);
            System.arraycopy(pikes, 0, rows, at + 2 * MOST_PONDS, MOST_PONDS);
            rows[at + ROW - 3] = open;
            rows[at + ROW - 2] = over;
            rows[at + ROW - 1] = day;
        }

        void readFrom(int[] rows, int at) {
            if (at < 0 || at + ROW > rows.length) {
                return;
            }
            System.arraycopy(rows, at, water, 0, MOST_PONDS);
            System.arraycopy(rows, at + MOST_PONDS, carp, 0, MOST_PONDS);
            System.arraycopy(rows, at + 2 * MOST_PONDS, pikes, 0, MOST_PONDS);
            open = rows[at + ROW - 3];
            over = rows[at + ROW - 2];
            day = rows[at + ROW - 1];
        }
    }

    /** How waters go by the law that holds: what flows, and a day. */
    private static final class Course {
        final Law[] laws = new Law[MOST_TEXTS];
        int lawCount;
        int holds = NONE;
        private final Town town;

        Course(Town town) {
            this.town = town;
            for (int i = 0; i < MOST_TEXTS; i++) {
                laws[i] = new Law();
            }
        }

        /** What would flow through a pipe of the town, were it open. */
        int flowThrough(int pipe, Waters waters) {
            int[] row = town.pipes[pipe];
            int high = higherEnd(pipe, waters);
            int low = row[ONE_END] + row[OTHER_END] - high;
            int gap = town.ponds[high][BED] + waters.water[high] - town.ponds[low][BED] - waters.water[low];
            int above = waters.water[high] - row[MOUTH];
            int room = town.ponds[low][CAPACITY] - waters.water[low];
            int most = Math.min(row[MOST], Math.min(above, room));
            if (gap == 0 || most <= 0) {
                return 0;
            }
            int worth = gap / 2;
            if (holds >= 0 && holds < lawCount) {
                worth = laws[holds].worth(gap, row[MOST], waters.water[high], row[MOUTH],
                        waters.water[low], waters.day);
            }
            return Math.max(0, Math.min(most, worth));
        }

        private int higherEnd(int pipe, Waters waters) {
            int one = town.pipes[pipe][ONE_END];
            int other = town.pipes[pipe][OTHER_END];
            int levelOfOne = town.ponds[one][BED] + waters.water[one];
            int levelOfOther = town.ponds[other][BED] + waters.water[other];
            return levelOfOne >= levelOfOther ? one : other;
        }

        void passDay(Waters waters, int rain) {
            for (int i = 0; i < town.pipeCount; i++) {
                if (waters.isOpen(i)) {
                    carry(i, waters);
                }
            }
            for (int i = 0; i < town.pondCount; i++) {
                weather(i, waters, rain);
            }
            for (int i = 0; i < town.pondCount; i++) {
                live(i, waters);
            }
            waters.day++;
        }

        private void carry(int pipe, Waters waters) {
            int much = flowThrough(pipe, waters);
            if (much <= 0) {
                return;
            }
            int from = higherEnd(pipe, waters);
            int to = town.pipes[pipe][ONE_END] + town.pipes[pipe][OTHER_END] - from;
            waters.water[from] -= much;
            waters.water[to] += much;
            if (waters.carp[from] > 0 && waters.carp[to] < MOST_CARP) {
                waters.carp[from]--;
                waters.carp[to]++;
            }
            if (waters.pikes[from] > 0 && waters.pikes[to] < MOST_PIKES) {
                waters.pikes[from]--;
                waters.pikes[to]++;
            }
        }

        private void weather(int pond, Waters waters, int rain) {
            int[] row = town.ponds[pond];
            int full = waters.water[pond] + rain;
            int held = Math.min(full, row[CAPACITY]);
            waters.over += full - held;
            waters.water[pond] = Math.max(0, held - town.sky[DRIES] - row[LEAK]);
        }

        private void live(int pond, Waters waters) {
            int carp = waters.carp[pond];
            int pikes = waters.pikes[pond];
            if (waters.water[pond] == 0) {
                waters.carp[pond] = 0;
                waters.pikes[pond] = 0;
                return;
            }
            if (carp < pikes) {
                waters.pikes[pond]--;
            }
            carp = Math.max(0, carp - 2 * pikes);
            if (waters.water[pond] >= town.sky[BREEDS]) {
                carp = Math.min(MOST_CARP, carp + carp / 4);
            }
            waters.carp[pond] = carp;
        }
    }

    /** The log: what acts undone may bring to light again is kept behind its end, too. */
    private static final class Chronicle {
        static final int ENTRY = 3;
        static final int KEPT = LOG_LENGTH + ACTS_LENGTH;

        int total;
        private final int[] rows = new int[KEPT * ENTRY];

        int length() {
            return Math.min(total, LOG_LENGTH);
        }

        void become(Chronicle other) {
            System.arraycopy(other.rows, 0, rows, 0, rows.length);
            total = other.total;
        }

        void add(int water, int bare, int carp) {
            int at = total % KEPT * ENTRY;
            if (at < 0 || at + 2 >= rows.length) {
                return;
            }
            rows[at] = water;
            rows[at + 1] = bare;
            rows[at + 2] = carp;
            total++;
        }

        int entry(int i, int what) {
            if (i < 0 || i >= length() || what < 0 || what >= ENTRY) {
                return NONE;
            }
            return rows[(total - 1 - i) % KEPT * ENTRY + what];
        }
    }

    /** What was ahead of each of the latest acts, going round. */
    private static final class Acts {
        static final int ROW = Waters.ROW + 1;

        int kept;
        private int next;
        private final int[] rows = new int[ACTS_LENGTH * ROW];

        void forget() {
            kept = 0;
        }

        void remember(Waters waters, Chronicle chronicle) {
            waters.writeTo(rows, next * ROW);
            rows[next * ROW + Waters.ROW] = chronicle.total;
            next = (next + 1) % ACTS_LENGTH;
            kept = Math.min(kept + 1, ACTS_LENGTH);
        }

        boolean takeBack(Waters waters, Chronicle chronicle) {
            if (kept < 1) {
                return false;
            }
            next = (next + ACTS_LENGTH - 1) % ACTS_LENGTH;
            kept--;
            waters.readFrom(rows, next * ROW);
            chronicle.total = rows[next * ROW + Waters.ROW];
            return true;
        }
    }

    /** What was measured, and which hidden pipes fit it. */
    private static final class Measures {
        int size;
        private final int[] ponds = new int[MOST_MEASURED];
        private final int[] gains = new int[MOST_MEASURED];
        private final int[] left = new int[2 * MOST_HIDDEN_FLOW + 1];
        private final Town town;

        Measures(Town town) {
            this.town = town;
        }

        boolean add(int pond, int gain) {
            if (size >= MOST_MEASURED) {
                return false;
            }
            ponds[size] = pond;
            gains[size] = gain;
            size++;
            return true;
        }

        private int ways() {
            return 1 + town.pondCount * (town.pondCount - 1) * MOST_HIDDEN_FLOW;
        }

        /** The ways in rising order: none, then by the pond from which, the other one, how much. */
        private int wayAt(int number) {
            int others = town.pondCount - 1;
            if (number < 1 || others < 1) {
                return 0;
            }
            int pair = (number - 1) / MOST_HIDDEN_FLOW;
            int from = pair / others;
            int to = pair % others;
            if (to >= from) {
                to++;
            }
            return 1000 + 100 * from + 10 * to + (number - 1) % MOST_HIDDEN_FLOW + 1;
        }

        private static int gainBy(int way, int pond) {
            if (way == 0) {
                return 0;
            }
            if (way / 100 % 10 == pond) {
                return -(way % 10);
            }
            return way / 10 % 10 == pond ? way % 10 : 0;
        }

        private boolean fits(int way) {
            for (int i = 0; i < size; i++) {
                if (gainBy(way, ponds[i]) != gains[i]) {
                    return false;
                }
            }
            return true;
        }

        int waysThatFit() {
            int fitting = 0;
            for (int i = 0; i < ways(); i++) {
                if (fits(wayAt(i))) {
                    fitting++;
                }
            }
            return fitting;
        }

        int wayThatFits(int i) {
            int ahead = i;
            for (int number = 0; number < ways(); number++) {
                int way = wayAt(number);
                if (!fits(way)) {
                    continue;
                }
                if (ahead == 0) {
                    return way;
                }
                ahead--;
            }
            return NONE;
        }

        int nextToMeasure() {
            int best = NONE;
            int fewest = ways() + 1;
            for (int pond = 0; pond < town.pondCount; pond++) {
                int most = mostLeftBy(pond);
                if (most > 0 && most < fewest) {
                    fewest = most;
                    best = pond;
                }
            }
            return best;
        }

        /** How many ways would be left by the worst that a pond's measure could tell. */
        private int mostLeftBy(int pond) {
            for (int i = 0; i < left.length; i++) {
                left[i] = 0;
            }
            int most = 0;
            for (int number = 0; number < ways(); number++) {
                int way = wayAt(number);
                if (fits(way)) {
                    int gain = gainBy(way, pond) + MOST_HIDDEN_FLOW;
                    left[gain]++;
                    most = Math.max(most, left[gain]);
                }
            }
            return most;
        }
    }

    /** What would be, and what is asked of the town as it is: the waters of now stay as they are. */
    private static final class Outlook {
        static final int MOST_UNTIL_DRY = 99;
        static final int HIGHEST_REST = 1000;

        final Waters would = new Waters();
        final int[] gaps = new int[4];
        private final Town town;
        private final Course course;
        private final Waters now;

        Outlook(Town town, Course course, Waters now) {
            this.town = town;
            this.course = course;
            this.now = now;
        }

        /** The waters behind so many days, these pipes open all the time. */
        Waters after(int days, int open) {
            would.become(now);
            would.open = open;
            for (int i = 0; i < days; i++) {
                course.passDay(would, town.sky[RAIN]);
            }
            return would;
        }

        boolean canBe(int kind, int first, int second, Waters waters) {
            switch (kind) {
                case OPENED:
                    return town.hasPipe(first) && !waters.isOpen(first);
                case CLOSED:
                    return town.hasPipe(first) && waters.isOpen(first);
                case WAITED:
                    return town.isTold() && first >= 1 && first <= LAST_DAY - waters.day;
                default:
                    return town.hasPond(first) && second >= 1
                            && second <= town.ponds[first][CAPACITY] - waters.water[first];
            }
        }

        /** How many steps of a plan can be; what they lead to stands in would. */
        int stepsThatCanBe(Plan plan) {
            would.become(now);
            for (int i = 0; i < plan.size; i++) {
                int kind = plan.kinds[i];
                if (!canBe(kind, plan.firsts[i], plan.seconds[i], would)) {
                    return i;
                }
                would.take(kind, plan.firsts[i], plan.seconds[i]);
                for (int day = 0; kind == WAITED && day < plan.firsts[i]; day++) {
                    course.passDay(would, town.sky[RAIN]);
                }
            }
            return plan.size;
        }

        int daysUntilDry(int pond) {
            would.become(now);
            for (int days = 0; days <= MOST_UNTIL_DRY; days++) {
                if (would.water[pond] == 0) {
                    return days;
                }
                course.passDay(would, town.sky[RAIN]);
            }
            return NONE;
        }

        int fewestKeys(int days) {
            int best = NONE;
            int fewest = town.pipeCount + 1;
            for (int set = 0; set < 1 << town.pipeCount; set++) {
                if (Integer.bitCount(set) < fewest && staysDeep(days, set)) {
                    best = set;
                    fewest = Integer.bitCount(set);
                }
            }
            return best;
        }

        private boolean staysDeep(int days, int open) {
            would.become(now);
            would.open = open;
            for (int i = 0; i < days; i++) {
                course.passDay(would, town.sky[RAIN]);
                if (town.bareAmong(would) != 0) {
                    return false;
                }
            }
            return true;
        }

        int keysThatKeepMost(int days) {
            int best = 0;
            int fewestBare = MOST_PONDS + 1;
            for (int set = 0; set < 1 << town.pipeCount; set++) {
                boolean fewerPipes = Integer.bitCount(set) < Integer.bitCount(best);
                if (fewestBare == 0 && !fewerPipes) {
                    continue;
                }
                int bare = Integer.bitCount(town.bareAmong(after(days, set)));
                if (bare < fewestBare || bare == fewestBare && fewerPipes) {
                    best = set;
                    fewestBare = bare;
                }
            }
            return best;
        }

        int fewestThatLack(int days) {
            int best = NONE;
            int fewest = town.pondCount + 1;
            for (int set = 1; set < 1 << town.pondCount; set++) {
                if (Integer.bitCount(set) < fewest && lacks(set, days)) {
                    best = set;
                    fewest = Integer.bitCount(set);
                }
            }
            return best;
        }

        private boolean lacks(int set, int days) {
            int has = 0;
            int wants = 0;
            for (int i = 0; i < town.pondCount; i++) {
                if ((set >> i & 1) != 0) {
                    has += now.water[i] + days * town.sky[RAIN];
                    wants += days * (town.sky[DRIES] + town.ponds[i][LEAK]) + town.ponds[i][NEED];
                }
            }
            for (int i = 0; i < town.pipeCount; i++) {
                int one = set >> town.pipes[i][ONE_END] & 1;
                int other = set >> town.pipes[i][OTHER_END] & 1;
                if (one != other) {
                    has += days * town.pipes[i][MOST];
                }
            }
            return has < wants;
        }

        int levelOfRest(int pond) {
            int group = town.groupOf(pond, now.open);
            int water = 0;
            for (int i = 0; i < town.pondCount; i++) {
                water += (group >> i & 1) * now.water[i];
            }
            for (int level = 0; level < HIGHEST_REST; level++) {
                if (heldUpTo(level, group) >= water) {
                    return level;
                }
            }
            return NONE;
        }

        private int heldUpTo(int level, int group) {
            int held = 0;
            for (int i = 0; i < town.pondCount; i++) {
                held += (group >> i & 1) * Math.max(0, level - town.ponds[i][BED]);
            }
            return held;
        }

        int mostOpenApart() {
            int best = 0;
            for (int set = 0; set < 1 << town.pipeCount; set++) {
                if (Integer.bitCount(set) > Integer.bitCount(best) && keepsApart(set)) {
                    best = set;
                }
            }
            return best;
        }

        private boolean keepsApart(int open) {
            int withCarp = 0;
            for (int i = 0; i < town.pondCount; i++) {
                withCarp |= now.carp[i] > 0 ? 1 << i : 0;
            }
            for (int i = 0; i < town.pondCount; i++) {
                int othersWithCarp = withCarp & ~(1 << i);
                if (now.pikes[i] > 0 && (town.groupOf(i, open) & othersWithCarp) != 0) {
                    return false;
                }
            }
            return true;
        }

        int wallsThatGive() {
            int bits = 0;
            for (int i = 0; i + 1 < town.pondCount; i++) {
                if (Math.abs(now.water[i] - now.water[i + 1]) > town.ponds[i][WALL]) {
                    bits |= 1 << i;
                }
            }
            return bits;
        }

        /** The open pipes of a feud: one pipe fought for by both is open only if both would. */
        int keysOfFeud(int first, int second, int x, int y) {
            int others = now.open & ~(1 << first | 1 << second);
            if (first == second) {
                return others | (x & y) << first;
            }
            return others | x << first | y << second;
        }

        int gapAfter(int one, int other, int days, int open) {
            Waters behind = after(days, open);
            return behind.water[one] - behind.water[other];
        }

        /** The gaps stand by 2 x and y: the first would have them wide, the second narrow. */
        int restAmongGaps(int i) {
            int found = 0;
            for (int choice = 0; choice < gaps.length; choice++) {
                if (gaps[choice ^ 2] <= gaps[choice] && gaps[choice ^ 1] >= gaps[choice]) {
                    if (found == i) {
                        return 10 * (choice >> 1) + (choice & 1);
                    }
                    found++;
                }
            }
            return i == NONE ? found : NONE;
        }

        int darkestPond() {
            int darkest = NONE;
            int most = 0;
            for (int i = 0; i < town.pondCount; i++) {
                int above = now.water[i] - town.ponds[i][LIGHT];
                if (above > most) {
                    most = above;
                    darkest = i;
                }
            }
            return darkest;
        }

        int rentOf(int pond) {
            int rent = now.water[pond];
            for (int i = 0; i < town.pipeCount; i++) {
                if (town.pipes[i][ONE_END] == pond || town.pipes[i][OTHER_END] == pond) {
                    rent += 5;
                }
            }
            return now.water[pond] < town.ponds[pond][NEED] ? rent - 10 : rent;
        }

        int groups() {
            int seen = 0;
            int found = 0;
            for (int i = 0; i < town.pondCount; i++) {
                if ((seen >> i & 1) == 0) {
                    seen |= town.groupOf(i, now.open);
                    found++;
                }
            }
            return found;
        }

        int fullestPipe() {
            int fullest = NONE;
            int most = 0;
            for (int i = 0; i < town.pipeCount; i++) {
                int flows = now.isOpen(i) ? course.flowThrough(i, now) : 0;
                if (flows > most) {
                    most = flows;
                    fullest = i;
                }
            }
            return fullest;
        }
    }
}
