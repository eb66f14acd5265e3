import java.math.BigInteger;
import java.util.ArrayList;
import java.util.Arrays;
import java.util.List;
import java.util.TreeSet;
import java.util.function.IntPredicate;

/**
 * The document told a second time, slowly and without thrift, for OracleTest to compare with:
 * states are copied whole, laws are worked off their text, faults of laws are found by keeping
 * all ways in which a text may go on.
 */
final class Oracle {
    static final int NONE = -1;
    static final int HIDDEN = -1000000;

    /** What acts change. */
    static final class State {
        int[] water = new int[0];
        int[] carp = new int[0];
        int[] pikes = new int[0];
        boolean[] open = new boolean[0];
        int over;
        int day;
        List<int[]> log = new ArrayList<>();

        State copy() {
            State s = new State();
            s.water = water.clone();
            s.carp = carp.clone();
            s.pikes = pikes.clone();
            s.open = open.clone();
            s.over = over;
            s.day = day;
            s.log = new ArrayList<>(log);
            return s;
        }
    }

    /** A sign of a text (or a whole number) and where it stands. */
    record Token(String sign, int at) {
        boolean isNumber() {
            return Character.isDigit(sign.charAt(0));
        }
    }

    private String tape = "";
    private int[] sky = {0, 0, 0};
    private int[][] ponds = {};
    private int[][] pipes = {};
    private State now = new State();
    private final List<State> acts = new ArrayList<>();
    private State image = null;
    private final List<String> laws = new ArrayList<>();
    private final List<List<int[]>> plans = new ArrayList<>();
    private final List<int[]> measures = new ArrayList<>();
    private int holds = NONE;
    private int storm = 20;
    private int pike = 0;

    // ---- the tape and its faults

    int feed(int... words) {
        StringBuilder more = new StringBuilder();
        for (int word : words) {
            for (int shift = 24; shift >= 0; shift -= 8) {
                char c = (char) (word >> shift & 255);
                if (c != 0) {
                    more.append(c);
                }
            }
        }
        if (tape.length() + more.length() > 240) {
            return NONE;
        }
        tape += more;
        return tape.length();
    }

    boolean end(int n) {
        if (n < 0 || n > tape.length()) {
            return false;
        }
        tape = tape.substring(0, n);
        return true;
    }

    private static List<Token> tokens(String text, boolean numbers) {
        List<Token> tokens = new ArrayList<>();
        int at = 0;
        while (at < text.length()) {
            int behind = at + 1;
            if (numbers && text.charAt(at) >= '0' && text.charAt(at) <= '9') {
                while (behind < text.length() && text.charAt(behind) >= '0' && text.charAt(behind) <= '9') {
                    behind++;
                }
            }
            if (text.charAt(at) != ' ') {
                tokens.add(new Token(text.substring(at, behind), at));
            }
            at = behind;
        }
        return tokens;
    }

    int fault(int sort) {
        switch (sort) {
            case 0: return townFault();
            case 1: return lawFault(tape);
            case 2: return planFault();
            default: return -2;
        }
    }

    private static final String[] ITEMS = {"rdm", "wcbneklfg", "abmho"};
    private static final int[][] HIGH = {{9, 9, 9}, {99, 99, 9, 99, 9, 99, 99, 99, 9}, {6, 6, 9, 99, 1}};
    private static final int[][] UNTOLD = {{0, 1, 5}, {30, 60, 0, 10, 0, 50, 25, 0, 0}, {0, 1, 3, 0, 0}};
    private static final int[] LIMIT = {1, 7, 9};

    private int[] triedSky;
    private List<List<int[]>> triedRows;

    private int townFault() {
        triedSky = UNTOLD[0].clone();
        triedRows = List.of(new ArrayList<>(), new ArrayList<>(), new ArrayList<>());
        List<Token> tokens = tokens(tape, true);
        int sort = NONE;
        int[] row = null;
        TreeSet<Integer> told = new TreeSet<>();
        for (int i = 0; i < tokens.size(); i++) {
            Token t = tokens.get(i);
            if (sort == NONE) {
                sort = "spi".indexOf(t.sign());
                if (sort < 0 || t.sign().length() != 1 || triedRows.get(sort).size() == LIMIT[sort]) {
                    return t.at();
                }
                row = UNTOLD[sort].clone();
                triedRows.get(sort).add(row);
                told.clear();
            } else if (t.sign().equals(";")) {
                sort = NONE;
            } else {
                int item = ITEMS[sort].indexOf(t.sign());
                if (item < 0 || !told.add(item)) {
                    return t.at();
                }
                if (i + 1 == tokens.size()) {
                    return tape.length();
                }
                i++;
                Token n = tokens.get(i);
                if (!n.isNumber()) {
                    return n.at();
                }
                if (n.sign().length() > 2) {
                    return n.at() + 2;
                }
                row[item] = Integer.parseInt(n.sign());
                boolean one = sort == 1 && item == 1 || sort == 2 && item == 2;
                if (row[item] > HIGH[sort][item] || one && row[item] == 0) {
                    return n.at() + n.sign().length() - 1;
                }
            }
        }
        return sort == NONE || !townStands() ? tape.length() : NONE;
    }

    private boolean townStands() {
        int count = triedRows.get(1).size();
        boolean stands = count > 0;
        for (int[] p : triedRows.get(1)) {
            stands &= p[0] <= p[1];
        }
        for (int[] i : triedRows.get(2)) {
            stands &= i[0] != i[1] && i[0] < count && i[1] < count;
        }
        if (!triedRows.get(0).isEmpty()) {
            triedSky = triedRows.get(0).get(0);
        }
        return stands;
    }

    /**
     * The rules of a law: a big letter may become what stands behind it. E and F end what a ! or a
     * bracket holds; N, O, P are further digits of a number.
     */
    private static final String[] RULES = {"LCM", "M", "M;CM", "Cy:B", "BQ?S", "BS", "QTR", "R", "R|TR", "TUV", "V", "V&UV",
        "U!UE", "U(QF)", "USXS", "X=", "X<", "X>", "SGH", "H", "H+GH", "H-GH", "GAI", "I", "I*AI", "I/AI",
        "Ad", "Am", "Aw", "Ah", "Al", "At", "A[SF]", "A0N", "N", "N0O", "O", "O0P", "P", "P0"};

    static int lawFault(String text) {
        TreeSet<String> ways = new TreeSet<>();
        ways.add("L");
        for (int at = 0; at < text.length(); at++) {
            TreeSet<String> next = new TreeSet<>();
            for (String way : ways) {
                goOn(way, text.charAt(at), next);
            }
            if (next.isEmpty()) {
                return at;
            }
            ways = next;
        }
        for (String way : ways) {
            if (canEnd(way)) {
                return NONE;
            }
        }
        return text.length();
    }

    private static final String NUMBER_ENDS = "NOP";

    /** A way is what is still to come; the depth is how many E and F that holds. */
    private static void goOn(String way, char c, TreeSet<String> next) {
        if (c == ' ') {
            boolean inNumber = !way.isEmpty() && NUMBER_ENDS.indexOf(way.charAt(0)) >= 0;
            next.add(inNumber ? way.substring(1) : way);
            return;
        }
        if (way.isEmpty()) {
            return;
        }
        char top = way.charAt(0);
        String rest = way.substring(1);
        if (top == 'E' || top == 'F') {
            goOn(rest, c, next);
        } else if (!Character.isUpperCase(top)) {
            boolean same = top == '0' ? c >= '0' && c <= '9' : top == c;
            boolean opens = c == '(' || c == '[' || c == '!';
            long depth = way.chars().filter(s -> s == 'E' || s == 'F').count();
            if (same && !(opens && depth > 6)) {
                next.add(rest);
            }
        } else {
            for (String rule : RULES) {
                if (rule.charAt(0) == top) {
                    goOn(rule.substring(1) + rest, c, next);
                }
            }
        }
    }

    private static boolean canEnd(String way) {
        for (char c : way.toCharArray()) {
            if ("MRVHINOPEF".indexOf(c) < 0) {
                return false;
            }
        }
        return true;
    }

    private List<int[]> triedPlan;

    private int planFault() {
        triedPlan = new ArrayList<>();
        List<Token> tokens = tokens(tape, false);
        int i = 0;
        while (true) {
            int[] step = {NONE, NONE, NONE};
            int digits = 1;
            for (int part = 0; part <= digits; part++) {
                if (i >= tokens.size()) {
                    return tape.length();
                }
                Token t = tokens.get(i);
                step[part] = part == 0 ? "ocdw".indexOf(t.sign()) : "0123456789".indexOf(t.sign());
                if (step[part] < 0) {
                    return t.at();
                }
                digits = step[0] == 3 ? 2 : 1;
                i++;
            }
            triedPlan.add(step);
            if (i == tokens.size()) {
                return NONE;
            }
            if (!tokens.get(i).sign().equals(";") || triedPlan.size() == 16) {
                return tokens.get(i).at();
            }
            i++;
        }
    }

    int text(int sort) {
        if (fault(sort) != NONE) {
            return NONE;
        }
        if (sort == 0) {
            sky = triedSky;
            ponds = triedRows.get(1).toArray(new int[0][]);
            pipes = triedRows.get(2).toArray(new int[0][]);
            now = new State();
            now.water = Arrays.stream(ponds).mapToInt(p -> p[0]).toArray();
            now.carp = Arrays.stream(ponds).mapToInt(p -> p[7]).toArray();
            now.pikes = Arrays.stream(ponds).mapToInt(p -> p[8]).toArray();
            now.open = new boolean[pipes.length];
            for (int i = 0; i < pipes.length; i++) {
                now.open[i] = pipes[i][4] == 1;
            }
            acts.clear();
            measures.clear();
            image = null;
            tape = "";
            return ponds.length;
        }
        if ((sort == 1 ? laws.size() : plans.size()) == 4) {
            return NONE;
        }
        if (sort == 1) {
            laws.add(tape.replace(" ", ""));
        } else {
            plans.add(triedPlan);
        }
        tape = "";
        return (sort == 1 ? laws.size() : plans.size()) - 1;
    }

    // ---- laws, worked off their text

    private static final class Worth {
        private final String text;
        private final int[] letters;
        private int at;

        Worth(String text, int... letters) {
            this.text = text;
            this.letters = letters;
        }

        private char look() {
            return at < text.length() ? text.charAt(at) : ';';
        }

        static int of(String law, int... letters) {
            for (String clause : law.split(";")) {
                String body = clause.substring(2);
                int asked = body.indexOf('?');
                if (asked < 0 || new Worth(body.substring(0, asked), letters).any()) {
                    return (int) new Worth(body.substring(asked + 1), letters).sum();
                }
            }
            return 0;
        }

        private boolean any() {
            boolean result = all();
            while (look() == '|') {
                at++;
                result |= all();
            }
            return result;
        }

        private boolean all() {
            boolean result = unit();
            while (look() == '&') {
                at++;
                result &= unit();
            }
            return result;
        }

        private boolean unit() {
            if (look() == '!') {
                at++;
                return !unit();
            }
            if (look() == '(') {
                at++;
                boolean inner = any();
                at++;
                return inner;
            }
            long left = sum();
            char sign = look();
            at++;
            long right = sum();
            return sign == '=' ? left == right : sign == '<' ? left < right : left > right;
        }

        private static long held(BigInteger n) {
            BigInteger far = BigInteger.valueOf(1000000);
            return n.min(far).max(far.negate()).longValue();
        }

        private long sum() {
            long result = term();
            while (look() == '+' || look() == '-') {
                at++;
                boolean more = text.charAt(at - 1) == '+';
                long other = term();
                result = held(BigInteger.valueOf(result).add(BigInteger.valueOf(more ? other : -other)));
            }
            return result;
        }

        private long term() {
            long result = atom();
            while (look() == '*' || look() == '/') {
                at++;
                boolean times = text.charAt(at - 1) == '*';
                BigInteger other = BigInteger.valueOf(atom());
                BigInteger one = BigInteger.valueOf(result);
                result = held(times ? one.multiply(other) : other.signum() == 0 ? other : one.divide(other));
            }
            return result;
        }

        private long atom() {
            if (look() == '[') {
                at++;
                long inner = sum();
                at++;
                return inner;
            }
            int letter = "dmwhlt".indexOf(look());
            if (letter >= 0) {
                at++;
                return letters[letter];
            }
            int from = at;
            while (Character.isDigit(look())) {
                at++;
            }
            return Long.parseLong(text.substring(from, at));
        }
    }

    // ---- days

    private int level(State s, int pond) {
        return ponds[pond][2] + s.water[pond];
    }

    private int flow(State s, int pipe) {
        int[] p = pipes[pipe];
        if (level(s, p[0]) == level(s, p[1])) {
            return 0;
        }
        int from = level(s, p[0]) > level(s, p[1]) ? p[0] : p[1];
        int to = from == p[0] ? p[1] : p[0];
        int d = level(s, from) - level(s, to);
        int worth = holds == NONE ? d / 2
                : Worth.of(laws.get(holds), d, p[2], s.water[from], p[3], s.water[to], s.day);
        int[] bounds = {p[2], Math.max(0, s.water[from] - p[3]), ponds[to][1] - s.water[to]};
        return Math.max(0, Math.min(worth, Arrays.stream(bounds).min().getAsInt()));
    }

    private void day(State s, int rain) {
        for (int i = 0; i < pipes.length; i++) {
            int much = s.open[i] ? flow(s, i) : 0;
            if (much > 0) {
                boolean down = level(s, pipes[i][0]) > level(s, pipes[i][1]);
                int from = pipes[i][down ? 0 : 1];
                int to = pipes[i][down ? 1 : 0];
                s.water[from] -= much;
                s.water[to] += much;
                int carp = s.carp[from] > 0 && s.carp[to] < 99 ? 1 : 0;
                s.carp[from] -= carp;
                s.carp[to] += carp;
                int pikes = s.pikes[from] > 0 && s.pikes[to] < 9 ? 1 : 0;
                s.pikes[from] -= pikes;
                s.pikes[to] += pikes;
            }
        }
        for (int i = 0; i < ponds.length; i++) {
            for (int drop = 0; drop < rain; drop++) {
                if (s.water[i] < ponds[i][1]) {
                    s.water[i]++;
                } else {
                    s.over++;
                }
            }
            for (int drop = 0; drop < sky[1] + ponds[i][4]; drop++) {
                if (s.water[i] > 0) {
                    s.water[i]--;
                }
            }
        }
        for (int i = 0; i < ponds.length; i++) {
            if (s.water[i] == 0) {
                s.carp[i] = 0;
                s.pikes[i] = 0;
            } else {
                boolean hungry = s.carp[i] < s.pikes[i];
                s.carp[i] -= Math.min(s.carp[i], 2 * s.pikes[i]);
                s.pikes[i] -= hungry ? 1 : 0;
                s.carp[i] += s.water[i] >= sky[2] ? Math.min(s.carp[i] / 4, 99 - s.carp[i]) : 0;
            }
        }
        s.day++;
        s.log.add(0, new int[] {sum(s.water), bare(s), sum(s.carp)});
        while (s.log.size() > 60) {
            s.log.remove(60);
        }
    }

    private static int sum(int[] row) {
        return Arrays.stream(row).sum();
    }

    private int bits(int size, IntPredicate holds) {
        int bits = 0;
        for (int i = 0; i < size; i++) {
            bits += holds.test(i) ? 1 << i : 0;
        }
        return bits;
    }

    private int bare(State s) {
        return bits(ponds.length, i -> s.water[i] < ponds[i][3]);
    }

    private void remember() {
        acts.add(now.copy());
        if (acts.size() > 40) {
            acts.remove(0);
        }
    }

    private boolean noTown() {
        return ponds.length == 0;
    }

    private boolean noPond(int pond) {
        return pond < 0 || pond >= ponds.length;
    }

    private boolean noPipe(int pipe) {
        return pipe < 0 || pipe >= pipes.length;
    }

    // ---- the face

    int sky(int what) {
        return noTown() || what < 0 || what > 2 ? NONE : sky[what];
    }

    /** Long.MIN_VALUE: it throws. */
    long pond(int pond, int what) {
        if (noPond(pond) || what < 0 || what > 9) {
            return Long.MIN_VALUE;
        }
        return what == 0 ? now.water[pond] : what == 7 ? now.carp[pond] : what == 8 ? now.pikes[pond]
                : what == 9 ? level(now, pond) : ponds[pond][what];
    }

    int pipe(int pipe, int what) {
        if (noPipe(pipe) || what < 0 || what > 5) {
            return NONE;
        }
        return what == 4 ? now.open[pipe] ? 1 : 0 : what == 5 ? flow(now, pipe) : pipes[pipe][what];
    }

    boolean law(int law) {
        if (law < -1 || law >= laws.size()) {
            return false;
        }
        holds = law;
        return true;
    }

    boolean odds(int what, int v) {
        if (what < 0 || what > 1 || v < 0 || v > 99 || v == (what == 0 ? storm : pike)) {
            return false;
        }
        if (what == 0) {
            storm = v;
        } else {
            pike = v;
        }
        return true;
    }

    boolean key(int pipe, boolean open) {
        if (noPipe(pipe) || now.open[pipe] == open) {
            return false;
        }
        remember();
        now.open[pipe] = open;
        return true;
    }

    int pour(int pond, int n) {
        if (noPond(pond) || n < 1 || n > 9 || now.water[pond] + n > ponds[pond][1]) {
            return NONE;
        }
        remember();
        return now.water[pond] += n;
    }

    int stock(int pond, int n) {
        if (noPond(pond) || n < 0 || n > 9 || n > 0 && now.carp[pond] + n > 99 || n == 0 && now.pikes[pond] == 9) {
            return NONE;
        }
        remember();
        return n == 0 ? ++now.pikes[pond] : (now.carp[pond] += n);
    }

    int days(int n) {
        if (noTown() || n < 1 || n > 60 || now.day + n > 9999) {
            return NONE;
        }
        for (int i = 0; i < n; i++) {
            remember();
            day(now, sky[0]);
        }
        return now.day;
    }

    private BigInteger drawn;

    private int draw(int m) {
        BigInteger round = BigInteger.ONE.shiftLeft(64);
        drawn = drawn.multiply(new BigInteger("6364136223846793005")).add(new BigInteger("1442695040888963407")).mod(round);
        return drawn.shiftRight(33).mod(BigInteger.valueOf(m)).intValue();
    }

    int years(int n, long seed) {
        if (noTown() || n < 1 || n > 60 || now.day + n > 9999) {
            return NONE;
        }
        drawn = BigInteger.valueOf(seed).mod(BigInteger.ONE.shiftLeft(64));
        for (int i = 0; i < n; i++) {
            remember();
            int rain = sky[0];
            if (draw(100) < storm) {
                rain += draw(10);
            } else if (draw(100) < pike) {
                int pond = draw(ponds.length);
                now.pikes[pond] = Math.min(9, now.pikes[pond] + 1);
            }
            day(now, rain);
        }
        return now.day;
    }

    int undo() {
        if (acts.isEmpty()) {
            return NONE;
        }
        now = acts.remove(acts.size() - 1);
        return acts.size();
    }

    int log(int i, int what) {
        return i < 0 || i >= now.log.size() || what < 0 || what > 2 ? NONE : now.log.get(i)[what];
    }

    private boolean noPlan(int plan) {
        return plan < 0 || plan >= plans.size();
    }

    int step(int plan, int i, int what) {
        if (noPlan(plan) || i < 0 || i >= plans.get(plan).size() || what < 0 || what > 2) {
            return HIDDEN;
        }
        return plans.get(plan).get(i)[what];
    }

    private boolean doStep(int[] step) {
        switch (step[0]) {
            case 0: return key(step[1], true);
            case 1: return key(step[1], false);
            case 2: return days(step[1]) != NONE;
            default: return pour(step[1], step[2]) != NONE;
        }
    }

    int run(int plan, int what) {
        if (noPlan(plan) || noTown() || what < 0 || what > 1) {
            return HIDDEN;
        }
        State before = now.copy();
        List<State> actsBefore = new ArrayList<>(acts);
        int done = perform(plan);
        int bare = bare(now);
        now = before;
        acts.clear();
        acts.addAll(actsBefore);
        return what == 1 ? bare : done == plans.get(plan).size() ? NONE : done;
    }

    int perform(int plan) {
        if (noPlan(plan) || noTown()) {
            return NONE;
        }
        int done = 0;
        for (int[] step : plans.get(plan)) {
            if (!doStep(step)) {
                break;
            }
            done++;
        }
        return done;
    }

    private State after(int n, int set) {
        State s = now.copy();
        for (int i = 0; i < pipes.length; i++) {
            s.open[i] = (set >> i & 1) == 1;
        }
        for (int i = 0; i < n; i++) {
            day(s, sky[0]);
        }
        return s;
    }

    private int keysNow() {
        return bits(pipes.length, i -> now.open[i]);
    }

    int ahead(int pond, int n) {
        return noPond(pond) || n < 0 || n > 60 ? NONE : after(n, keysNow()).water[pond];
    }

    int dries(int pond) {
        for (int n = 0; n <= 99 && !noPond(pond); n++) {
            if (after(n, keysNow()).water[pond] == 0) {
                return n;
            }
        }
        return NONE;
    }

    int bare() {
        return noTown() ? NONE : bare(now);
    }

    /** Sets by how many they hold, then by their bits. */
    private static List<Integer> sets(int size) {
        List<Integer> sets = new ArrayList<>();
        for (int set = 0; set < 1 << size; set++) {
            sets.add(set);
        }
        sets.sort((a, b) -> Integer.bitCount(a) != Integer.bitCount(b) ? Integer.bitCount(a) - Integer.bitCount(b) : a - b);
        return sets;
    }

    int keys(int n) {
        if (noTown() || n < 1 || n > 9) {
            return NONE;
        }
        for (int set : sets(pipes.length)) {
            int bare = 0;
            for (int[] entry : after(n, set).log.subList(0, n)) {
                bare |= entry[1];
            }
            if (bare == 0) {
                return set;
            }
        }
        return NONE;
    }

    int kept(int n, int what) {
        if (noTown() || n < 1 || n > 9 || what < 0 || what > 1) {
            return NONE;
        }
        int most = -1;
        int best = -1;
        for (int set : sets(pipes.length)) {
            int kept = ponds.length - Integer.bitCount(bare(after(n, set)));
            if (kept > most) {
                most = kept;
                best = set;
            }
        }
        return what == 0 ? most : best;
    }

    int cut(int n) {
        if (noTown() || n < 1 || n > 9) {
            return NONE;
        }
        for (int set : sets(ponds.length)) {
            int more = 0;
            for (int i = 0; i < ponds.length; i++) {
                if ((set >> i & 1) == 1) {
                    more += now.water[i] + n * (sky[0] - sky[1] - ponds[i][4]) - ponds[i][3];
                }
            }
            for (int[] p : pipes) {
                more += (set >> p[0] & 1) + (set >> p[1] & 1) == 1 ? n * p[2] : 0;
            }
            if (set != 0 && more < 0) {
                return set;
            }
        }
        return NONE;
    }

    private int group(int pond, int set) {
        int group = 1 << pond;
        boolean grows = true;
        while (grows) {
            grows = false;
            for (int i = 0; i < pipes.length; i++) {
                boolean one = (group >> pipes[i][0] & 1) == 1;
                boolean other = (group >> pipes[i][1] & 1) == 1;
                if ((set >> i & 1) == 1 && one != other) {
                    group |= 1 << pipes[i][0] | 1 << pipes[i][1];
                    grows = true;
                }
            }
        }
        return group;
    }

    int rest(int pond) {
        if (noPond(pond)) {
            return NONE;
        }
        int group = joined(pond);
        int level = 0;
        while (true) {
            int lacking = 0;
            for (int i = 0; i < ponds.length; i++) {
                if ((group >> i & 1) == 1) {
                    lacking += now.water[i] - Math.max(0, level - ponds[i][2]);
                }
            }
            if (lacking <= 0) {
                return level;
            }
            level++;
        }
    }

    int joined(int pond) {
        return noPond(pond) ? NONE : group(pond, keysNow());
    }

    int apart() {
        int best = NONE;
        for (int set : sets(pipes.length)) {
            boolean meet = false;
            for (int p = 0; p < ponds.length; p++) {
                for (int q = 0; q < ponds.length; q++) {
                    meet |= p != q && now.pikes[p] > 0 && now.carp[q] > 0 && (group(p, set) >> q & 1) == 1;
                }
            }
            if (!noTown() && !meet && (best == NONE || Integer.bitCount(set) > Integer.bitCount(best))) {
                best = set;
            }
        }
        return best;
    }

    int measured(int pond, int x) {
        if (noPond(pond) || x < -9 || x > 9 || measures.size() == 10) {
            return NONE;
        }
        measures.add(new int[] {pond, x});
        return measures.size();
    }

    private static int gain(int way, int pond) {
        return way == 0 ? 0 : way / 100 - 10 == pond ? -(way % 10) : way / 10 % 10 == pond ? way % 10 : 0;
    }

    private List<Integer> ways() {
        List<Integer> ways = new ArrayList<>();
        for (int way = 0; way < 2000 && !noTown(); way++) {
            boolean real = way == 0;
            if (way > 1000) {
                int from = way / 100 - 10;
                int to = way / 10 % 10;
                real = from != to && !noPond(from) && !noPond(to) && way % 10 != 0;
            }
            for (int[] m : measures) {
                real &= gain(way, m[0]) == m[1];
            }
            if (real) {
                ways.add(way);
            }
        }
        return ways;
    }

    int secret(int i) {
        List<Integer> ways = ways();
        if (noTown()) {
            return NONE;
        }
        return i == NONE ? ways.size() : i < 0 || i >= ways.size() ? NONE : ways.get(i);
    }

    int measure() {
        List<Integer> ways = ways();
        int best = NONE;
        int fewest = Integer.MAX_VALUE;
        for (int pond = 0; pond < ponds.length && !ways.isEmpty(); pond++) {
            int worst = 0;
            for (int x = -9; x <= 9; x++) {
                int left = 0;
                for (int way : ways) {
                    left += gain(way, pond) == x ? 1 : 0;
                }
                worst = Math.max(worst, left);
            }
            if (worst < fewest) {
                fewest = worst;
                best = pond;
            }
        }
        return best;
    }

    int walls() {
        return noTown() ? NONE : bits(ponds.length - 1, i -> Math.abs(now.water[i] - now.water[i + 1]) > ponds[i][5]);
    }

    int feud(int one, int other, int first, int second, int n, int x, int y) {
        if (noPond(one) || noPond(other) || one == other || noPipe(first) || noPipe(second)
                || n < 1 || n > 9 || x < 0 || x > 1 || y < 0 || y > 1) {
            return HIDDEN;
        }
        int set = bits(pipes.length, i -> i == first && i == second ? x + y == 2
                : i == first ? x == 1 : i == second ? y == 1 : now.open[i]);
        State s = after(n, set);
        return s.water[one] - s.water[other];
    }

    int rests(int one, int other, int first, int second, int n, int i) {
        if (feud(one, other, first, second, n, 0, 0) == HIDDEN) {
            return NONE;
        }
        List<Integer> rests = new ArrayList<>();
        for (int x = 0; x <= 1; x++) {
            for (int y = 0; y <= 1; y++) {
                int here = feud(one, other, first, second, n, x, y);
                if (feud(one, other, first, second, n, 1 - x, y) <= here
                        && feud(one, other, first, second, n, x, 1 - y) >= here) {
                    rests.add(10 * x + y);
                }
            }
        }
        return i == NONE ? rests.size() : i < 0 || i >= rests.size() ? NONE : rests.get(i);
    }

    int reads(int n) {
        if (noTown() || n < 0 || n > 60) {
            return NONE;
        }
        State s = after(n, keysNow());
        return bits(ponds.length, i -> s.water[i] <= ponds[i][6]);
    }

    int darkest() {
        int best = NONE;
        for (int i = ponds.length - 1; i >= 0; i--) {
            int above = now.water[i] - ponds[i][6];
            if (above > 0 && (best == NONE || above >= now.water[best] - ponds[best][6])) {
                best = i;
            }
        }
        return best;
    }

    int rent(int pond) {
        if (noPond(pond)) {
            return HIDDEN;
        }
        int rent = now.water[pond] - 10 * (bare(now) >> pond & 1);
        for (int[] p : pipes) {
            rent += p[0] == pond || p[1] == pond ? 5 : 0;
        }
        return rent;
    }

    int trend(int pond) {
        return noPond(pond) ? HIDDEN : ahead(pond, 1) - now.water[pond];
    }

    int shares() {
        TreeSet<Integer> groups = new TreeSet<>();
        for (int i = 0; i < ponds.length; i++) {
            groups.add(joined(i));
        }
        return noTown() ? NONE : groups.size();
    }

    int largest() {
        int best = NONE;
        for (int i = pipes.length - 1; i >= 0; i--) {
            if (now.open[i] && flow(now, i) > 0 && (best == NONE || flow(now, i) >= flow(now, best))) {
                best = i;
            }
        }
        return best;
    }

    int eaten(int n) {
        return noTown() || n < 1 || n > 60 ? HIDDEN : sum(now.carp) - sum(after(n, keysNow()).carp);
    }

    int image() {
        image = noTown() ? null : now.copy();
        return noTown() ? NONE : now.day;
    }

    int back() {
        if (image == null) {
            return NONE;
        }
        now = image.copy();
        acts.clear();
        return now.day;
    }

    int count(int what) {
        int needs = Arrays.stream(ponds).mapToInt(p -> p[3]).sum();
        int room = Arrays.stream(ponds).mapToInt(p -> p[1]).sum();
        int[] counts = {ponds.length, pipes.length, laws.size(), plans.size(), tape.length(), holds, now.day,
            sum(now.water), sum(now.carp), sum(now.pikes), now.over, sum(now.water) - needs, room - sum(now.water),
            storm, pike, keysNow(), measures.size(), now.log.size(), acts.size()};
        return what < 0 || what >= counts.length ? HIDDEN : counts[what];
    }
}
