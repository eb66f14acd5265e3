import java.util.List;
import java.util.NoSuchElementException;

/**
 * "What is refused answers as told and changes nothing": of two objects made alike one is asked what is
 * refused (or a question, which changes nothing either); then both look alike, also behind acts undone and back.
 */
public final class RefusedTest {
    private static final Checks CHECKS = new Checks();
    private static final int NONE = -1;
    private static final int GONE = -1000000;
    private static final long THROWN = Long.MIN_VALUE;
    private static final int[] FAR = {Integer.MIN_VALUE, Integer.MAX_VALUE};

    /** Makes an object with a run of calls, the same one each time. */
    private interface Made {
        PondRoofs make();
    }

    /** A call, with a boolean as 1 or 0 and what pond throws as THROWN. */
    private interface Call {
        long on(PondRoofs x);
    }

    private static Made made;
    private static String madeAs;

    public static void main(String[] args) {
        state("busy", RefusedTest::busy);
        textsRefused();
        handsRefused();
        numbersRefused();
        pondsRefused();
        spansRefused();
        feudsRefused();
        questions();
        state("without a town", RefusedTest::townless);
        withoutATown();
        numbersRefused();
        textsRefused();
        fullStates();
        CHECKS.finish();
    }

    private static void state(String name, Made maker) {
        madeAs = name;
        made = maker;
    }

    private static void alike(String call, PondRoofs x, PondRoofs y) {
        List<Long> got = Seen.of(x);
        List<Long> want = Seen.of(y);
        CHECKS.due(madeAs + ": " + call + " changed " + want + " to " + got, got.equals(want), true);
    }

    /** How an object is led on before it is looked at: acts undone and images show only so. */
    private static void lead(PondRoofs x, int way) {
        if (way == 1) {
            x.undo();
        } else if (way == 2) {
            for (int i = 0; i < 40; i++) {
                x.undo();
            }
        } else if (way == 3) {
            x.back();
        } else if (way == 4) {
            x.years(1, 5);
            x.undo();
        }
    }

    private static void changesNothing(String name, Call call) {
        for (int way = 0; way <= 4; way++) {
            PondRoofs x = made.make();
            PondRoofs y = made.make();
            call.on(x);
            lead(x, way);
            lead(y, way);
            alike(name + " (led on by way " + way + ")", x, y);
        }
    }

    private static void refused(String name, long want, Call call) {
        CHECKS.due(madeAs + ": " + name, call.on(made.make()), want);
        changesNothing(name, call);
    }

    // ---- states

    private static PondRoofs busy() {
        PondRoofs x = Checks.town("sr2d3m4;pw58f20g2n55;pw9c20f3b2;pw30g9f99e1;im9o1;ia1b2m2h3;ia2b0");
        Checks.text(x, 1, "y:d/3");
        Checks.text(x, 1, "y:t>2?4;y:1");
        Checks.text(x, 2, "d1;w11;o1;c1;d0");
        Checks.text(x, 2, "c0;c0");
        x.law(1);
        x.odds(0, 31);
        x.odds(1, 12);
        x.measured(0, 3);
        x.measured(1, 0);
        x.days(2);
        x.image();
        x.years(2, 9);
        x.key(1, true);
        x.pour(1, 2);
        x.stock(0, 7);
        x.stock(0, 0);
        Checks.tape(x, "p;pw12;q");
        return x;
    }

    private static PondRoofs townless() {
        PondRoofs x = new PondRoofs();
        Checks.text(x, 1, "y:d/3");
        Checks.text(x, 1, "y:2");
        Checks.text(x, 2, "d1;w11");
        Checks.text(x, 2, "c0");
        x.law(1);
        x.odds(0, 31);
        Checks.tape(x, "s;q");
        return x;
    }

    // ---- calls

    private static void textsRefused() {
        int bytes = made.make().count(4);
        for (int n : new int[] {NONE, bytes + 1, 240, FAR[0], FAR[1]}) {
            refused("end(" + n + ")", 0, x -> x.end(n) ? 1 : 0);
        }
        for (int sort : new int[] {-1, 3, FAR[0], FAR[1]}) {
            refused("fault(" + sort + ")", -2, x -> x.fault(sort));
            refused("text(" + sort + ")", NONE, x -> x.text(sort));
        }
        for (int sort = 0; sort < 3; sort++) {
            int of = sort;
            refused("text(" + sort + ") of a fault", NONE, x -> x.text(of));
            changesNothing("fault(" + sort + ")", x -> x.fault(of));
        }
        changesNothing("feed of nothing", x -> x.feed(0, 0, 0, 0, 0));
        changesNothing("end where it ends", x -> x.end(bytes) ? 1 : 0);
        for (int law : new int[] {-2, 2, 3, FAR[0], FAR[1]}) {
            refused("law(" + law + ")", 0, x -> x.law(law) ? 1 : 0);
        }
        changesNothing("law(1) that holds", x -> x.law(1) ? 1 : 0);
        for (int what = 0; what <= 1; what++) {
            int of = what;
            int so = made.make().count(13 + what);
            for (int v : new int[] {-1, 100, so, FAR[0], FAR[1]}) {
                refused("odds(" + what + ", " + v + ")", 0, x -> x.odds(of, v) ? 1 : 0);
            }
        }
        for (int what : new int[] {-1, 2, FAR[0], FAR[1]}) {
            refused("odds(" + what + ", 5)", 0, x -> x.odds(what, 5) ? 1 : 0);
        }
    }

    private static void handsRefused() {
        refused("key(0, true) of an open one", 0, x -> x.key(0, true) ? 1 : 0);
        refused("key(2, false) of a closed one", 0, x -> x.key(2, false) ? 1 : 0);
        for (int pipe : new int[] {-1, 3, 9, 32, FAR[0], FAR[1]}) {
            refused("key(" + pipe + ", true)", 0, x -> x.key(pipe, true) ? 1 : 0);
            refused("key(" + pipe + ", false)", 0, x -> x.key(pipe, false) ? 1 : 0);
        }
        for (int n : new int[] {0, -1, 10, FAR[0], FAR[1]}) {
            refused("pour(2, " + n + ")", NONE, x -> x.pour(2, n));
        }
        int room = made.make().pond(1, 1) - made.make().pond(1, 0);
        CHECKS.due("room for few", room > 0 && room < 9, true);
        refused("pour beyond the room", NONE, x -> x.pour(1, room + 1));
        CHECKS.due("pour up to it", made.make().pour(1, room), 20);
        for (int n : new int[] {-1, 10, FAR[0], FAR[1]}) {
            refused("stock(1, " + n + ")", NONE, x -> x.stock(1, n));
        }
        for (int n : new int[] {0, -1, 61, FAR[0], FAR[1]}) {
            refused("days(" + n + ")", NONE, x -> x.days(n));
            refused("years(" + n + ", 7)", NONE, x -> x.years(n, 7));
        }
    }

    private static void numbersRefused() {
        for (int what : new int[] {-1, 3, FAR[0], FAR[1]}) {
            refused("sky(" + what + ")", NONE, x -> x.sky(what));
            refused("log(0, " + what + ")", NONE, x -> x.log(0, what));
            refused("step(0, 0, " + what + ")", GONE, x -> x.step(0, 0, what));
        }
        for (int pipe : new int[] {-1, 3, FAR[0], FAR[1]}) {
            refused("pipe(" + pipe + ", 0)", NONE, x -> x.pipe(pipe, 0));
        }
        for (int what : new int[] {-1, 6, FAR[0], FAR[1]}) {
            refused("pipe(0, " + what + ")", NONE, x -> x.pipe(0, what));
        }
        for (int i : new int[] {-1, 4, 60, FAR[0], FAR[1]}) {
            refused("log(" + i + ", 0)", NONE, x -> x.log(i, 0));
        }
        for (int plan : new int[] {-1, 2, FAR[0], FAR[1]}) {
            refused("step(" + plan + ", 0, 0)", GONE, x -> x.step(plan, 0, 0));
            refused("run(" + plan + ", 0)", GONE, x -> x.run(plan, 0));
            refused("run(0, " + plan + ")", GONE, x -> x.run(0, plan));
            refused("perform(" + plan + ")", NONE, x -> x.perform(plan));
        }
        for (int i : new int[] {-1, 5, FAR[0], FAR[1]}) {
            refused("step(0, " + i + ", 0)", GONE, x -> x.step(0, i, 0));
        }
        for (int what : new int[] {-1, 19, FAR[0], FAR[1]}) {
            refused("count(" + what + ")", GONE, x -> x.count(what));
        }
        for (int i : new int[] {-2, 3000, FAR[0], FAR[1]}) {
            refused("secret(" + i + ")", NONE, x -> x.secret(i));
        }
    }

    private static long thrown(PondRoofs x, int pond, int what) {
        try {
            return x.pond(pond, what);
        } catch (NoSuchElementException e) {
            return THROWN;
        }
    }

    private static void pondsRefused() {
        for (int pond : new int[] {-1, 3, 7, FAR[0], FAR[1]}) {
            onePond(pond);
        }
        for (int what : new int[] {-1, 10, FAR[0], FAR[1]}) {
            refused("pond(0, " + what + ")", THROWN, x -> thrown(x, 0, what));
        }
        for (int gain : new int[] {-10, 10, FAR[0], FAR[1]}) {
            refused("measured(0, " + gain + ")", NONE, x -> x.measured(0, gain));
        }
    }

    private static void onePond(int pond) {
        refused("pond(" + pond + ", 0)", THROWN, x -> thrown(x, pond, 0));
        refused("pour(" + pond + ", 1)", NONE, x -> x.pour(pond, 1));
        refused("stock(" + pond + ", 0)", NONE, x -> x.stock(pond, 0));
        refused("stock(" + pond + ", 1)", NONE, x -> x.stock(pond, 1));
        refused("ahead(" + pond + ", 1)", NONE, x -> x.ahead(pond, 1));
        refused("dries(" + pond + ")", NONE, x -> x.dries(pond));
        refused("rest(" + pond + ")", NONE, x -> x.rest(pond));
        refused("joined(" + pond + ")", NONE, x -> x.joined(pond));
        refused("measured(" + pond + ", 1)", NONE, x -> x.measured(pond, 1));
        refused("rent(" + pond + ")", GONE, x -> x.rent(pond));
        refused("trend(" + pond + ")", GONE, x -> x.trend(pond));
    }

    private static void spansRefused() {
        for (int n : new int[] {0, -1, 10, FAR[0], FAR[1]}) {
            refused("keys(" + n + ")", NONE, x -> x.keys(n));
            refused("kept(" + n + ", 0)", NONE, x -> x.kept(n, 0));
            refused("cut(" + n + ")", NONE, x -> x.cut(n));
        }
        for (int what : new int[] {-1, 2, FAR[0], FAR[1]}) {
            refused("kept(1, " + what + ")", NONE, x -> x.kept(1, what));
        }
        for (int n : new int[] {-1, 61, FAR[0], FAR[1]}) {
            refused("ahead(0, " + n + ")", NONE, x -> x.ahead(0, n));
            refused("reads(" + n + ")", NONE, x -> x.reads(n));
            refused("eaten(" + n + ")", GONE, x -> x.eaten(n));
        }
        refused("eaten(0)", GONE, x -> x.eaten(0));
    }

    private static void feudsRefused() {
        int[] right = {0, 1, 0, 1, 1, 1, 1};
        int[][] wrong = {{-1, 3}, {-1, 3}, {-1, 3}, {-1, 3}, {0, 10}, {-1, 2}, {-1, 2}};
        for (int place = 0; place < 7; place++) {
            for (int value : new int[] {wrong[place][0], wrong[place][1], FAR[0], FAR[1]}) {
                int[] w = right.clone();
                w[place] = value;
                refused("feud with " + value + " at " + place, GONE, x -> x.feud(w[0], w[1], w[2], w[3], w[4], w[5], w[6]));
                if (place < 5) {
                    refused("rests with " + value + " at " + place, NONE, x -> x.rests(w[0], w[1], w[2], w[3], w[4], -1));
                }
            }
        }
        refused("feud of one pond", GONE, x -> x.feud(1, 1, 0, 1, 1, 0, 0));
        refused("rests of one pond", NONE, x -> x.rests(1, 1, 0, 1, 1, -1));
        for (int i : new int[] {-2, 4, FAR[0], FAR[1]}) {
            refused("rests(.., " + i + ")", NONE, x -> x.rests(0, 1, 0, 1, 1, i));
        }
    }

    /** What would be is told apart: no question is an act, and none leaves a trace. */
    private static void questions() {
        for (int what = 0; what <= 1; what++) {
            int of = what;
            changesNothing("run(0, " + what + ")", x -> x.run(0, of));
            changesNothing("run(1, " + what + ")", x -> x.run(1, of));
            changesNothing("kept(9, " + what + ")", x -> x.kept(9, of));
        }
        changesNothing("ahead(0, 60)", x -> x.ahead(0, 60));
        changesNothing("dries(0)", x -> x.dries(0));
        changesNothing("bare()", PondRoofs::bare);
        changesNothing("keys(9)", x -> x.keys(9));
        changesNothing("cut(9)", x -> x.cut(9));
        changesNothing("rest(0)", x -> x.rest(0));
        changesNothing("joined(0)", x -> x.joined(0));
        changesNothing("apart()", PondRoofs::apart);
        changesNothing("secret(-1)", x -> x.secret(-1));
        changesNothing("secret(1)", x -> x.secret(1));
        changesNothing("measure()", PondRoofs::measure);
        changesNothing("walls()", PondRoofs::walls);
        changesNothing("feud", x -> x.feud(0, 1, 0, 2, 9, 0, 1));
        changesNothing("rests", x -> x.rests(0, 1, 0, 2, 9, -1));
        changesNothing("reads(60)", x -> x.reads(60));
        changesNothing("darkest()", PondRoofs::darkest);
        changesNothing("rent(0)", x -> x.rent(0));
        changesNothing("trend(0)", x -> x.trend(0));
        changesNothing("shares()", PondRoofs::shares);
        changesNothing("largest()", PondRoofs::largest);
        changesNothing("eaten(60)", x -> x.eaten(60));
        changesNothing("pond(0, 9)", x -> x.pond(0, 9));
        changesNothing("pipe(0, 5)", x -> x.pipe(0, 5));
    }

    private static void withoutATown() {
        for (int pond : new int[] {0, 1, -1, 7}) {
            onePond(pond);
        }
        refused("sky(0)", NONE, x -> x.sky(0));
        refused("pipe(0, 0)", NONE, x -> x.pipe(0, 0));
        refused("key(0, true)", 0, x -> x.key(0, true) ? 1 : 0);
        refused("key(0, false)", 0, x -> x.key(0, false) ? 1 : 0);
        refused("days(1)", NONE, x -> x.days(1));
        refused("years(1, 1)", NONE, x -> x.years(1, 1));
        refused("undo()", NONE, PondRoofs::undo);
        refused("log(0, 0)", NONE, x -> x.log(0, 0));
        refused("run(0, 0)", GONE, x -> x.run(0, 0));
        refused("run(0, 1)", GONE, x -> x.run(0, 1));
        refused("perform(0)", NONE, x -> x.perform(0));
        refused("bare()", NONE, PondRoofs::bare);
        refused("keys(1)", NONE, x -> x.keys(1));
        refused("kept(1, 0)", NONE, x -> x.kept(1, 0));
        refused("kept(1, 1)", NONE, x -> x.kept(1, 1));
        refused("cut(1)", NONE, x -> x.cut(1));
        refused("apart()", NONE, PondRoofs::apart);
        refused("secret(-1)", NONE, x -> x.secret(-1));
        refused("secret(0)", NONE, x -> x.secret(0));
        refused("measure()", NONE, PondRoofs::measure);
        refused("walls()", NONE, PondRoofs::walls);
        refused("feud", GONE, x -> x.feud(0, 1, 0, 1, 1, 0, 0));
        refused("rests", NONE, x -> x.rests(0, 1, 0, 1, 1, -1));
        refused("reads(0)", NONE, x -> x.reads(0));
        refused("darkest()", NONE, PondRoofs::darkest);
        refused("shares()", NONE, PondRoofs::shares);
        refused("largest()", NONE, PondRoofs::largest);
        refused("eaten(1)", GONE, x -> x.eaten(1));
        refused("image()", NONE, PondRoofs::image);
        refused("back()", NONE, PondRoofs::back);
    }

    // ---- states that are full, or at their end

    private static PondRoofs withText(int sort, int times, String text, String left) {
        PondRoofs x = busy();
        for (int i = 0; i < times; i++) {
            Checks.text(x, sort, text);
        }
        Checks.tape(x, left);
        return x;
    }

    private static void fullStates() {
        state("with a full tape", () -> withText(2, 0, "", "p;" + " ".repeat(237) + "p"));
        CHECKS.due("the tape is full", made.make().count(4), 240);
        refused("feed of a byte", NONE, x -> x.feed(0, 0, 0, 0, 'w'));
        refused("feed of a byte", NONE, x -> x.feed('w' << 24, 0, 0, 0, 0));
        refused("feed of twenty", NONE, x -> x.feed(-1, -1, -1, -1, -1));
        state("with 221 bytes", () -> withText(2, 0, "", "p;" + " ".repeat(218) + "p"));
        refused("feed of twenty", NONE, x -> x.feed(0x20202020, 0x20202020, 0x20202020, 0x20202020, 0x20202020));
        state("with four laws", () -> withText(1, 2, "y:7", "y:8"));
        CHECKS.due("four laws", made.make().count(2), 4);
        refused("a fifth law", NONE, x -> x.text(1));
        state("with four plans", () -> withText(2, 2, "d2;d3", "d4"));
        CHECKS.due("four plans", made.make().count(3), 4);
        refused("a fifth plan", NONE, x -> x.text(2));
        faultyTapes();
        state("with ten measured", RefusedTest::tenMeasured);
        refused("an eleventh", NONE, x -> x.measured(0, 3));
        state("with full ponds", () -> Checks.town("pw60f99g9;pw59f95g8;io1"));
        refused("pour", NONE, x -> x.pour(0, 1));
        refused("pour", NONE, x -> x.pour(1, 2));
        refused("a carp", NONE, x -> x.stock(0, 1));
        refused("five carp", NONE, x -> x.stock(1, 5));
        refused("a pike", NONE, x -> x.stock(0, 0));
        refused("no act to undo", NONE, PondRoofs::undo);
        refused("no image", NONE, PondRoofs::back);
        state("with a plan that can't begin", () -> withText(2, 1, "c2;d1", ""));
        refused("perform(2)", 0, x -> x.perform(2));
        state("near the last day", () -> lateOn(9998));
        refused("two days", NONE, x -> x.days(2));
        refused("sixty days", NONE, x -> x.years(60, 4));
        refused("a plan of two", 0, x -> x.perform(0));
        state("on the last day", () -> lateOn(9999));
        refused("a day", NONE, x -> x.days(1));
        refused("a year", NONE, x -> x.years(1, 4));
        refused("a plan of two", 0, x -> x.perform(0));
    }

    /** Texts that stand up to their last sign, and texts without a fault that are asked after alone. */
    private static void faultyTapes() {
        String[][] faulty = {{"sr9d9m9;p;p;pw61", "sr9;p;pw9;ia0b2", "p;p;ia1", "s;i", "p;p;p;p;p;p;p;p", "p;pw1w", "pc0"},
            {"y:1;y:d=1", "y:9;", "y:[[[[[[[d]]]]]]]", "y:12345"}, {"d1;d", "d1;o", "w1", "o1;d2;"}};
        String[] right = {"sr9d9m9;pw9;pw8", "y:9", "d9;d9;d9"};
        for (int sort = 0; sort < 3; sort++) {
            int of = sort;
            for (String text : faulty[sort]) {
                state("with " + text + " on the tape", () -> withText(2, 0, "", text));
                refused("text(" + sort + ")", NONE, x -> x.text(of));
                changesNothing("fault(" + sort + ")", x -> x.fault(of));
            }
            state("with " + right[sort] + " on the tape", () -> withText(2, 0, "", right[of]));
            refused("fault(" + sort + ")", NONE, x -> x.fault(of));
        }
    }

    private static PondRoofs tenMeasured() {
        PondRoofs x = busy();
        for (int i = 0; i < 8; i++) {
            x.measured(i % 2, i % 2 == 0 ? 3 : 0);
        }
        CHECKS.due("ten measured", x.count(16), 10);
        return x;
    }

    private static PondRoofs lateOn(int day) {
        PondRoofs x = Checks.town("sr1d0;pw0c99f8;p;i");
        Checks.text(x, 2, "d2;o0");
        for (int i = 0; i < day / 60; i++) {
            x.days(60);
        }
        x.image();
        x.days(day % 60);
        return x;
    }
}
