import java.util.List;
import java.util.Map;
import java.util.Set;
import java.util.TreeMap;
import java.util.TreeSet;

/** What is told of a town matters where the document names it, and nowhere else. */
public final class ScopeTest {
    private static final Checks CHECKS = new Checks();
    private static final String[] CLAUSES = {"sr0d1m5", "pw30c60b0n10e0k15l25f8g1", "pw20c40b0n12e0k50l30f8g0",
        "pw6c50b3n0e0k9l2f1g0", "ia0b1m3h0o0", "ia1b2m4h0o1"};
    private static final int OF_THE_SKY = 0;
    private static final int FIRST_POND = 1;
    private static final int SECOND_POND = 2;
    private static final int CLOSED_PIPE = 4;
    private static final int OPEN_PIPE = 5;
    /** Where it shows that a pond has other water behind some days. */
    private static final String LATER_WATER = " ahead dries later-pond-0 later-pond-9 later-count-7 later-count-11 later-count-12"
        + " later-log-0 later-rent later-rest ";

    public static void main(String[] args) {
        itemsOfPonds();
        itemsOfPipes();
        itemsOfTheSky();
        whatIsSet();
        acts();
        CHECKS.finish();
    }

    private static void itemsOfPonds() {
        otherwise(SECOND_POND, "b0", "b7", "pond-2 pond-9 rest later-pond-9 later-rest");
        otherwise(SECOND_POND, "n12", "n25",
            "pond-3 bare keys kept-0 rent cut run-1 count-11 later-bare later-rent later-count-11 later-log-1");
        otherwise(SECOND_POND, "k50", "k7", "pond-5 walls later-walls");
        otherwise(SECOND_POND, "l30", "l13", "pond-6 reads darkest later-darkest");
        otherwise(SECOND_POND, "c40", "c41", "pond-1 count-12 later-count-12");
        otherwise(SECOND_POND, "w20", "w24", "pond-0 pond-9 count-7 count-11 count-12 rent rest keys kept-0 feud" + LATER_WATER);
        // behind four days its water is below what carp need
        otherwise(SECOND_POND, "e0", "e3", "pond-4 cut keys kept-0 run-1 trend feud eaten later-bare later-walls later-pond-7"
            + " later-count-8 later-log-1 later-log-2" + LATER_WATER);
        String carp = "pond-7 count-8 eaten later-pond-7 later-count-8 later-log-2";
        otherwise(SECOND_POND, "f8", "f9", carp);
        otherwise(SECOND_POND, "f8", "f0", carp + " apart later-apart");
        otherwise(SECOND_POND, "g0", "g1", "pond-8 count-9 eaten apart later-pond-7 later-pond-8 later-count-8 later-count-9"
            + " later-log-2 later-apart");
    }

    private static void itemsOfPipes() {
        otherwise(CLOSED_PIPE, "m3", "m4", "pipe-2");
        otherwise(OPEN_PIPE, "h0", "h7", "pipe-3");
        String joined = "rest joined shares later-rest later-joined later-shares later-count-15";
        otherwise(CLOSED_PIPE, "o0", "o1", "pipe-4 count-15 run-0 " + joined);
        otherwise(CLOSED_PIPE, "b1", "b2", "pipe-1 rent later-rent");
        // all that the pipe may bring is just enough
        String[] lacking = with(CLAUSES, FIRST_POND, "n10e0", "n30e3");
        differ("m of a pond that lacks", still(lacking), still(with(lacking, CLOSED_PIPE, "m3", "m4")), "pipe-2 cut");
    }

    private static void itemsOfTheSky() {
        String drier = "cut keys kept-0 run-1 reads trend eaten later-bare later-log-1 later-log-2" + LATER_WATER;
        String[] dry = with(CLAUSES, OF_THE_SKY, "d1", "d3");
        differ("r", still(dry), still(with(dry, OF_THE_SKY, "r0", "r1")), "sky-0 " + drier);
        differ("d", still(dry), still(with(dry, OF_THE_SKY, "d3", "d2")), "sky-1 " + drier);
        differ("m", still(dry), still(with(dry, OF_THE_SKY, "m5", "m9")),
            "sky-2 eaten later-pond-7 later-count-8 later-log-2");
    }

    private static void whatIsSet() {
        PondRoofs x = still(CLAUSES);
        CHECKS.due("odds(0, 50)", x.odds(0, 50), true);
        differ("STORM", still(CLAUSES), x, "count-13 later-count-13");
        x = still(CLAUSES);
        CHECKS.due("odds(1, 50)", x.odds(1, 50), true);
        differ("PIKE", still(CLAUSES), x, "count-14 later-count-14");
        x = still(CLAUSES);
        CHECKS.due("measured(0, -3)", x.measured(0, -3), 1);
        differ("MEASURED", still(CLAUSES), x, "count-16 secret measure later-count-16 later-secret later-measure");
        x = still(CLAUSES);
        CHECKS.due("a law that does not hold", Checks.text(x, 1, "y:9"), 1);
        differ("a law", still(CLAUSES), x, "count-2 later-count-2");
        x = still(CLAUSES);
        CHECKS.due("a plan more", Checks.text(x, 2, "d9"), 1);
        differ("a plan", still(CLAUSES), x, "count-3 later-count-3");
        x = still(CLAUSES);
        Checks.tape(x, "pw9");
        differ("the tape", still(CLAUSES), x, "count-4 later-count-4");
        x = still(CLAUSES);
        CHECKS.due("image()", x.image(), 0);
        differ("an image", still(CLAUSES), x, "");
        x = still(CLAUSES);
        x.image();
        CHECKS.due("days(4)", x.days(4), 4);
        CHECKS.due("back()", x.back(), 0);
        differ("back from four days", still(CLAUSES), x, "");
    }

    /** An act does as if the town had been told so, but that it can be undone; undone, it is as if it had not been. */
    private static void acts() {
        String undone = "count-18 later-count-18";
        PondRoofs x = still(CLAUSES);
        x.key(0, true);
        differ("a key", still(with(CLAUSES, CLOSED_PIPE, "o0", "o1")), x, undone);
        x = still(CLAUSES);
        x.pour(1, 4);
        differ("water", still(with(CLAUSES, SECOND_POND, "w20", "w24")), x, undone);
        x = still(CLAUSES);
        x.stock(1, 1);
        differ("a carp", still(with(CLAUSES, SECOND_POND, "f8", "f9")), x, undone);
        x = still(CLAUSES);
        x.stock(1, 0);
        differ("a pike", still(with(CLAUSES, SECOND_POND, "g0", "g1")), x, undone);
        x = still(CLAUSES);
        x.key(0, true);
        x.pour(1, 4);
        x.stock(1, 1);
        x.stock(1, 0);
        x.days(2);
        x.years(2, 5);
        for (int left = 7; left >= 0; left--) {
            CHECKS.due("undo()", x.undo(), left);
        }
        differ("all undone", still(CLAUSES), x, "");
    }

    private static String[] with(String[] clauses, int clause, String told, String instead) {
        String[] others = clauses.clone();
        others[clause] = clauses[clause].replace(told, instead);
        CHECKS.due(told + " is told", others[clause].equals(clauses[clause]), false);
        return others;
    }

    private static void otherwise(int clause, String told, String instead, String where) {
        differ(instead + " for " + told, still(CLAUSES), still(with(CLAUSES, clause, told, instead)), where);
    }

    /** A town in which nothing flows, so that its items show apart. */
    private static PondRoofs still(String[] clauses) {
        PondRoofs x = Checks.town(String.join(";", clauses));
        Checks.text(x, 1, "y:0");
        x.law(0);
        Checks.text(x, 2, "o0;d3;w01");
        return x;
    }

    private static void differ(String told, PondRoofs one, PondRoofs other, String where) {
        Map<String, String> ofOne = answers(one);
        Map<String, String> ofOther = answers(other);
        Set<String> got = new TreeSet<>();
        for (String call : ofOne.keySet()) {
            if (!ofOne.get(call).equals(ofOther.get(call))) {
                got.add(call);
            }
        }
        Set<String> want = new TreeSet<>(List.of(where.trim().split(" +")));
        want.remove("");
        Set<String> more = new TreeSet<>(got);
        more.removeAll(want);
        want.removeAll(got);
        CHECKS.due("behind " + told + " these are otherwise", more.toString(), "[]");
        CHECKS.due("behind " + told + " these are not otherwise", want.toString(), "[]");
    }

    private static Map<String, String> answers(PondRoofs x) {
        Map<String, String> answers = new TreeMap<>();
        told(x, answers);
        asItIs(x, "", answers);
        wouldBe(x, answers);
        x.days(4);
        asItIs(x, "later-", answers);
        for (int what = 0; what <= 2; what++) {
            for (int i = 0; i < 4; i++) {
                put(answers, "later-log-" + what, x.log(i, what));
            }
        }
        return answers;
    }

    private static void put(Map<String, String> answers, String call, int answer) {
        answers.merge(call, answer + " ", String::concat);
    }

    private static void told(PondRoofs x, Map<String, String> answers) {
        for (int what = 0; what <= 5; what++) {
            put(answers, "sky-" + what, x.sky(what));
            for (int pipe = 0; pipe < x.count(1); pipe++) {
                put(answers, "pipe-" + what, x.pipe(pipe, what));
            }
        }
        for (int what = 1; what <= 6; what++) {
            for (int pond = 0; pond < x.count(0); pond++) {
                put(answers, "pond-" + what, x.pond(pond, what));
            }
        }
    }

    private static void asItIs(PondRoofs x, String when, Map<String, String> answers) {
        for (int pond = 0; pond < x.count(0); pond++) {
            for (int what : new int[] {0, 7, 8, 9}) {
                put(answers, when + "pond-" + what, x.pond(pond, what));
            }
            put(answers, when + "rest", x.rest(pond));
            put(answers, when + "joined", x.joined(pond));
            put(answers, when + "rent", x.rent(pond));
        }
        for (int what = 0; what <= 18; what++) {
            put(answers, when + "count-" + what, x.count(what));
        }
        for (int i = -1; i < 3; i++) {
            put(answers, when + "secret", x.secret(i));
        }
        put(answers, when + "measure", x.measure());
        put(answers, when + "bare", x.bare());
        put(answers, when + "apart", x.apart());
        put(answers, when + "walls", x.walls());
        put(answers, when + "darkest", x.darkest());
        put(answers, when + "shares", x.shares());
        put(answers, when + "largest", x.largest());
    }

    private static void wouldBe(PondRoofs x, Map<String, String> answers) {
        for (int pond = 0; pond < x.count(0); pond++) {
            put(answers, "ahead", x.ahead(pond, 5));
            put(answers, "dries", x.dries(pond));
            put(answers, "trend", x.trend(pond));
        }
        for (int n = 1; n <= 9; n++) {
            put(answers, "keys", x.keys(n));
            put(answers, "kept-0", x.kept(n, 0));
            put(answers, "kept-1", x.kept(n, 1));
            put(answers, "cut", x.cut(n));
            put(answers, "reads", x.reads(n));
            put(answers, "eaten", x.eaten(n));
        }
        for (int choice = 0; choice < 4; choice++) {
            put(answers, "feud", x.feud(0, 1, 0, 1, 3, choice >> 1, choice & 1));
            put(answers, "rests", x.rests(0, 1, 0, 1, 3, choice - 1));
        }
        put(answers, "run-0", x.run(0, 0));
        put(answers, "run-1", x.run(0, 1));
    }
}
