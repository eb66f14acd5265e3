import java.util.NoSuchElementException;
import java.util.Random;

/** Random runs of calls, each answered by the class and by the Oracle alike; nothing but what is told is thrown. */
public final class OracleTest {
    private static final int RUNS = 400;
    private static final int CALLS = 500;
    private static final int TEXTS = 60000;

    private final Random random;
    private PondRoofs x;
    private Oracle y;
    private static int wrong = 0;
    private static long made = 0;

    private OracleTest(long seed) {
        random = new Random(seed);
    }

    public static void main(String[] args) {
        for (int run = 0; run < RUNS && wrong < 20; run++) {
            new OracleTest(run).run(run);
        }
        new OracleTest(-1).faults();
        System.out.println(wrong == 0 ? made + " answers are alike" : wrong + " answers are not alike");
        if (wrong != 0) {
            System.exit(1);
        }
    }

    private void alike(String call, long got, long want) {
        made++;
        if (got != want && wrong++ < 20) {
            System.out.println(call + " answered " + got + ", the oracle " + want);
        }
    }

    private void run(int run) {
        x = new PondRoofs();
        y = new Oracle();
        for (int i = 0; i < CALLS && wrong < 20; i++) {
            call("run " + run + " call " + i + ": ");
        }
        for (int what = -1; what <= 19; what++) {
            alike("run " + run + ": count(" + what + ")", x.count(what), y.count(what));
        }
    }

    private int near(int low, int high) {
        int n = random.nextInt(60);
        if (n == 0) {
            return random.nextInt();
        }
        return n < 4 ? (random.nextBoolean() ? low - 1 : high + 1) : low + random.nextInt(high - low + 1);
    }

    private int pond() {
        return near(0, Math.max(0, y.count(0) - 1));
    }

    private int pipe() {
        return near(0, Math.max(0, y.count(1) - 1));
    }

    private void feed(String text) {
        x.end(0);
        y.end(0);
        for (int from = 0; from < text.length(); from += 20) {
            int[] words = new int[5];
            for (int at = from; at < from + 20; at++) {
                int w = (at - from) / 4;
                words[w] = words[w] << 8 | (at < text.length() ? text.charAt(at) : 0);
            }
            alike("feed", x.feed(words[0], words[1], words[2], words[3], words[4]), y.feed(words));
        }
    }

    private void tell(String call, int sort, String text) {
        feed(text);
        alike(call + "fault(" + sort + ") of " + text, x.fault(sort), y.fault(sort));
        alike(call + "text(" + sort + ") of " + text, x.text(sort), y.text(sort));
    }

    private void call(String call) {
        int sort = random.nextInt(54);
        if (y.count(0) == 0 && random.nextInt(3) > 0 || random.nextInt(150) == 0) {
            tell(call, 0, town());
        }
        if (sort < 14) {
            texts(call, sort);
        } else if (sort < 28) {
            acts(call, sort);
        } else if (sort < 41) {
            outlooks(call, sort);
        } else {
            questions(call, sort);
        }
    }

    private void texts(String call, int sort) {
        switch (sort) {
            case 0:
                int[] words = {random.nextInt(), 0, random.nextInt(), 0, random.nextInt()};
                alike(call + "feed", x.feed(words[0], words[1], words[2], words[3], words[4]), y.feed(words));
                break;
            case 1:
                int n = near(0, 30);
                alike(call + "end(" + n + ")", x.end(n) ? 1 : 0, y.end(n) ? 1 : 0);
                break;
            case 2:
                int s = near(0, 2);
                alike(call + "fault(" + s + ")", x.fault(s), y.fault(s));
                alike(call + "text(" + s + ")", x.text(s), y.text(s));
                break;
            case 3:
                tell(call, 1, law());
                break;
            case 4:
                tell(call, 2, plan());
                break;
            case 5:
                int w = near(0, 2);
                alike(call + "sky(" + w + ")", x.sky(w), y.sky(w));
                break;
            case 6:
                int l = near(-1, Math.max(0, y.count(2) - 1));
                alike(call + "law(" + l + ")", x.law(l) ? 1 : 0, y.law(l) ? 1 : 0);
                break;
            case 7:
                int o = near(0, 1);
                int v = near(0, 99);
                alike(call + "odds(" + o + ", " + v + ")", x.odds(o, v) ? 1 : 0, y.odds(o, v) ? 1 : 0);
                break;
            case 8:
                int p = near(0, 3);
                int i = near(0, 15);
                int part = near(0, 2);
                alike(call + "step(" + p + ", " + i + ", " + part + ")", x.step(p, i, part), y.step(p, i, part));
                break;
            default:
                pondsAndPipes(call);
        }
    }

    private void pondsAndPipes(String call) {
        int p = pond();
        int what = near(0, 9);
        long got;
        try {
            got = x.pond(p, what);
        } catch (NoSuchElementException e) {
            got = Long.MIN_VALUE;
        }
        alike(call + "pond(" + p + ", " + what + ")", got, y.pond(p, what));
        int i = pipe();
        int of = near(0, 5);
        alike(call + "pipe(" + i + ", " + of + ")", x.pipe(i, of), y.pipe(i, of));
        int c = near(0, 18);
        alike(call + "count(" + c + ")", x.count(c), y.count(c));
    }

    private void acts(String call, int sort) {
        int p = pond();
        int n = near(0, 9);
        switch (sort) {
            case 14:
            case 15:
                int i = pipe();
                boolean open = random.nextBoolean();
                alike(call + "key(" + i + ", " + open + ")", x.key(i, open) ? 1 : 0, y.key(i, open) ? 1 : 0);
                break;
            case 16:
            case 17:
                alike(call + "pour(" + p + ", " + n + ")", x.pour(p, n), y.pour(p, n));
                break;
            case 18:
            case 19:
                alike(call + "stock(" + p + ", " + n + ")", x.stock(p, n), y.stock(p, n));
                break;
            case 20:
                int d = random.nextInt(8) == 0 ? near(1, 60) : near(1, 4);
                alike(call + "days(" + d + ")", x.days(d), y.days(d));
                break;
            case 21:
                int d2 = random.nextInt(8) == 0 ? near(1, 60) : near(1, 4);
                long seed = random.nextInt(4) == 0 ? random.nextInt(5) - 2 : random.nextLong();
                alike(call + "years(" + d2 + ", " + seed + ")", x.years(d2, seed), y.years(d2, seed));
                break;
            case 22:
            case 23:
                int times = random.nextInt(10) == 0 ? 41 : random.nextInt(3);
                for (int t = 0; t < times; t++) {
                    alike(call + "undo()", x.undo(), y.undo());
                }
                break;
            case 24:
                int entry = near(0, 59);
                int what = near(0, 2);
                alike(call + "log(" + entry + ", " + what + ")", x.log(entry, what), y.log(entry, what));
                break;
            case 25:
                int plan = near(0, 3);
                alike(call + "run(" + plan + ", 0)", x.run(plan, 0), y.run(plan, 0));
                alike(call + "run(" + plan + ", 1)", x.run(plan, 1), y.run(plan, 1));
                alike(call + "perform(" + plan + ")", x.perform(plan), y.perform(plan));
                break;
            case 26:
                alike(call + "image()", x.image(), y.image());
                break;
            default:
                if (random.nextInt(5) == 0) {
                    alike(call + "back()", x.back(), y.back());
                }
        }
    }

    private void outlooks(String call, int sort) {
        int p = pond();
        int n = near(0, 60);
        int few = near(1, 9);
        int what = near(0, 1);
        switch (sort) {
            case 28:
                alike(call + "ahead(" + p + ", " + n + ")", x.ahead(p, n), y.ahead(p, n));
                break;
            case 29:
                alike(call + "dries(" + p + ")", x.dries(p), random.nextInt(4) == 0 ? y.dries(p) : x.dries(p));
                break;
            case 30:
                alike(call + "bare()", x.bare(), y.bare());
                break;
            case 31:
                alike(call + "keys(" + few + ")", x.keys(few), random.nextInt(4) == 0 ? y.keys(few) : x.keys(few));
                break;
            case 32:
                alike(call + "kept(" + few + ", " + what + ")", x.kept(few, what),
                        random.nextInt(4) == 0 ? y.kept(few, what) : x.kept(few, what));
                break;
            case 33:
                alike(call + "cut(" + few + ")", x.cut(few), y.cut(few));
                break;
            case 34:
                alike(call + "rest(" + p + ")", x.rest(p), y.rest(p));
                break;
            case 35:
                alike(call + "joined(" + p + ")", x.joined(p), y.joined(p));
                break;
            case 36:
                alike(call + "apart()", x.apart(), y.apart());
                break;
            case 37:
                alike(call + "reads(" + n + ")", x.reads(n), y.reads(n));
                break;
            case 38:
                alike(call + "trend(" + p + ")", x.trend(p), y.trend(p));
                break;
            case 39:
                alike(call + "eaten(" + n + ")", x.eaten(n), y.eaten(n));
                break;
            default:
                feuds(call);
        }
    }

    private void feuds(String call) {
        int one = pond();
        int other = pond();
        int first = pipe();
        int second = pipe();
        int n = near(1, 9);
        int a = near(0, 1);
        int b = near(0, 1);
        int i = near(-1, 3);
        alike(call + "feud", x.feud(one, other, first, second, n, a, b), y.feud(one, other, first, second, n, a, b));
        alike(call + "rests", x.rests(one, other, first, second, n, i), y.rests(one, other, first, second, n, i));
    }

    private void questions(String call, int sort) {
        int p = pond();
        switch (sort) {
            case 41:
                int gain = near(-9, 9);
                alike(call + "measured(" + p + ", " + gain + ")", x.measured(p, gain), y.measured(p, gain));
                break;
            case 42:
            case 43:
                int i = random.nextBoolean() ? near(-1, 3) : near(-1, 400);
                alike(call + "secret(" + i + ")", x.secret(i), y.secret(i));
                break;
            case 44:
                alike(call + "measure()", x.measure(), y.measure());
                break;
            case 45:
                alike(call + "walls()", x.walls(), y.walls());
                break;
            case 46:
                alike(call + "darkest()", x.darkest(), y.darkest());
                break;
            case 47:
                alike(call + "rent(" + p + ")", x.rent(p), y.rent(p));
                break;
            case 48:
                alike(call + "shares()", x.shares(), y.shares());
                break;
            case 49:
                alike(call + "largest()", x.largest(), y.largest());
                break;
            default:
                for (int what = 0; what < 19; what++) {
                    alike(call + "count(" + what + ")", x.count(what), y.count(what));
                }
        }
    }

    // ---- texts, mostly right ones

    private String blanks(String text) {
        return random.nextInt(6) == 0 ? " " + text : text;
    }

    private String town() {
        StringBuilder text = new StringBuilder();
        int ponds = 1 + random.nextInt(7);
        int pipes = random.nextInt(4) == 0 ? 9 : random.nextInt(Math.min(9, ponds * 2));
        boolean dry = random.nextBoolean();
        if (random.nextInt(4) > 0) {
            text.append(blanks("s")).append(items("rdm", dry ? new int[] {2, 5, 9} : new int[] {9, 9, 9})).append(";");
        }
        for (int i = 0; i < ponds; i++) {
            text.append(i == 0 ? "" : ";").append(blanks("p"));
            text.append(random.nextBoolean() ? "w" + random.nextInt(60) : "");
            text.append(items("bneklfg", new int[] {9, 30, 5, 60, 40, 40, 4}));
        }
        for (int i = 0; i < pipes && ponds > 1; i++) {
            int a = random.nextInt(ponds);
            int b = (a + 1 + random.nextInt(ponds - 1)) % ponds;
            text.append(";").append(blanks("i")).append("a").append(a).append("b").append(b);
            text.append(items("mho", new int[] {9, 30, 1}).replace("m0", "m1"));
        }
        String cut = text.length() > 240 ? text.substring(0, 240) : text.toString();
        return random.nextInt(25) == 0 ? spoil(cut, " spiwcbneklfgamho;0123456789") : cut;
    }

    private String items(String letters, int[] most) {
        StringBuilder text = new StringBuilder();
        for (int i = 0; i < letters.length(); i++) {
            if (random.nextInt(3) == 0) {
                text.append(letters.charAt(i)).append(blanks("")).append(random.nextInt(most[i] + 1));
            }
        }
        return text.toString();
    }

    private String law() {
        StringBuilder text = new StringBuilder();
        int clauses = 1 + random.nextInt(3);
        for (int i = 0; i < clauses; i++) {
            text.append(i == 0 ? "y:" : ";y:");
            text.append(random.nextInt(3) > 0 ? condition(0) + "?" : "").append(sum(0));
        }
        String cut = text.length() > 240 ? text.substring(0, 240) : text.toString();
        return random.nextInt(8) == 0 ? spoil(cut, "y:?!()[]|&=<>+-*/dmwhlt 0123456789;") : cut;
    }

    private String condition(int depth) {
        StringBuilder text = new StringBuilder(unit(depth));
        for (int more = random.nextInt(4); more > 1; more--) {
            text.append(random.nextBoolean() ? "|" : "&").append(unit(depth));
        }
        return text.toString();
    }

    private String unit(int depth) {
        int sort = depth > 2 ? 2 : random.nextInt(5);
        if (sort == 0) {
            return blanks("!") + unit(depth + 1);
        }
        if (sort == 1) {
            return "(" + condition(depth + 1) + blanks(")");
        }
        return sum(depth) + "=<>".charAt(random.nextInt(3)) + sum(depth);
    }

    private String sum(int depth) {
        StringBuilder text = new StringBuilder(atom(depth));
        for (int more = random.nextInt(4); more > 0; more--) {
            text.append("+-*/".charAt(random.nextInt(4))).append(atom(depth));
        }
        return text.toString();
    }

    private String atom(int depth) {
        int sort = random.nextInt(depth > 2 ? 8 : 10);
        if (sort > 7) {
            return blanks("[") + sum(depth + 1) + "]";
        }
        return blanks(sort < 5 ? "" + "dmwhlt".charAt(random.nextInt(6)) : "" + random.nextInt(sort == 7 ? 10000 : 20));
    }

    private String plan() {
        StringBuilder text = new StringBuilder();
        int steps = 1 + random.nextInt(random.nextInt(10) == 0 ? 18 : 5);
        for (int i = 0; i < steps; i++) {
            int kind = random.nextInt(4);
            text.append(i == 0 ? "" : ";").append(blanks("")).append("ocdw".charAt(kind)).append(random.nextInt(kind == 2 ? 10 : 4));
            text.append(kind == 3 ? blanks("" + random.nextInt(10)) : "");
        }
        return random.nextInt(15) == 0 ? spoil(text.toString(), "ocdw;0123456789 ") : text.toString();
    }

    private String spoil(String text, String signs) {
        StringBuilder spoilt = new StringBuilder(text);
        for (int times = 1 + random.nextInt(3); times > 0; times--) {
            int at = random.nextInt(spoilt.length() + 1);
            char sign = signs.charAt(random.nextInt(signs.length()));
            int how = random.nextInt(3);
            if (how == 0 && spoilt.length() < 240 || at == spoilt.length()) {
                spoilt.insert(at, sign);
            } else if (how == 1) {
                spoilt.setCharAt(at, sign);
            } else {
                spoilt.deleteCharAt(at);
            }
        }
        return spoilt.length() > 240 ? spoilt.substring(0, 240) : spoilt.toString();
    }

    private void faults() {
        String[] signs = {" spiwcbneklfgamho;0123456789", "y:?!()[]|&=<>+-*/dmwhlt 0123456789;", "ocdw;0123456789 "};
        x = new PondRoofs();
        y = new Oracle();
        for (int i = 0; i < TEXTS && wrong < 20; i++) {
            int sort = random.nextInt(3);
            String text = sort == 0 ? town() : sort == 1 ? nestedLaw() : plan();
            feed(random.nextBoolean() ? spoil(text, signs[sort]) : text);
            alike("fault(" + sort + ") of " + text, x.fault(sort), y.fault(sort));
        }
    }

    private String nestedLaw() {
        if (random.nextInt(3) > 0) {
            return law();
        }
        StringBuilder text = new StringBuilder("y:");
        for (int i = 4 + random.nextInt(4); i > 0; i--) {
            text.append("!([".charAt(random.nextInt(2)));
        }
        for (int i = random.nextInt(4); i > 0; i--) {
            text.append("[");
        }
        return text + sum(2) + "=1" + ")))".substring(random.nextInt(4)) + "?d";
    }
}
