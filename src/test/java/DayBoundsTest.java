/** Terms 2 and 4, promises 11 to 17, 43 to 45: bounds of a day, of acts, the log, years and images, and both their sides. */
public final class DayBoundsTest {
    private static final Checks CHECKS = new Checks();
    private static final int GONE = -1000000;
    private static final int LAST = 9999;

    public static void main(String[] args) {
        keys();
        pours();
        stocks();
        carpGoAlong();
        pikesGoAlong();
        rainedAndOver();
        driedAndLeaked();
        lifeWithoutWater();
        eaten();
        bred();
        orderOfADay();
        daysAndYearsRefused();
        lastDay();
        logOfSixty();
        logBehindUndone();
        fortyActs();
        dayByDayUndone();
        stormDraws();
        pikeDraws();
        ninePikes();
        drawsGoOn();
        drawsGoRound();
        images();
        imagesOfFullLogs();
        counts();
        CHECKS.finish();
    }

    // ---- by hand

    private static void keys() {
        for (int pipes = 0; pipes <= 9; pipes++) {
            PondRoofs x = Checks.town("p;p;i;i;i;i;i;i;i;i;i".substring(0, 3 + 2 * pipes));
            int[] wrong = {-1, pipes, 9, 31, 32, Integer.MAX_VALUE, Integer.MIN_VALUE};
            for (int pipe : wrong) {
                CHECKS.due("key(" + pipe + ", true) of " + pipes, x.key(pipe, true), false);
                CHECKS.due("key(" + pipe + ", false) of " + pipes, x.key(pipe, false), false);
            }
            for (int pipe = 0; pipe < pipes; pipe++) {
                CHECKS.due("closed already", x.key(pipe, false), false);
                CHECKS.due("opened", x.key(pipe, true), true);
                CHECKS.due("open already", x.key(pipe, true), false);
                CHECKS.due("open ones", x.count(15), (2 << pipe) - 1);
            }
            CHECKS.due("acts", x.count(18), pipes);
            for (int pipe = 0; pipe < pipes; pipe++) {
                CHECKS.due("closed", x.key(pipe, false), true);
                CHECKS.due("closed already", x.key(pipe, false), false);
                CHECKS.due("open ones", x.count(15), (1 << pipes) - (2 << pipe));
            }
            CHECKS.due("acts", x.count(18), 2 * pipes);
        }
        CHECKS.due("key without a town", new PondRoofs().key(0, false), false);
    }

    private static void pours() {
        for (int room = 0; room <= 11; room++) {
            for (int n = -1; n <= 11; n++) {
                PondRoofs x = Checks.town("p;pw" + (60 - room));
                boolean may = n >= 1 && n <= 9 && n <= room;
                CHECKS.due("pour(1, " + n + ") with room " + room, x.pour(1, n), may ? 60 - room + n : -1);
                CHECKS.due("its water", x.pond(1, 0), may ? 60 - room + n : 60 - room);
                CHECKS.due("acts", x.count(18), may ? 1 : 0);
            }
        }
        PondRoofs x = Checks.town("pw0c99;pw98c99");
        int[] wrong = {Integer.MAX_VALUE, Integer.MIN_VALUE, 10, 99, 0};
        for (int n : wrong) {
            CHECKS.due("pour(0, " + n + ")", x.pour(0, n), -1);
        }
        int[] noPonds = {-1, 2, 7, Integer.MAX_VALUE, Integer.MIN_VALUE};
        for (int pond : noPonds) {
            CHECKS.due("pour(" + pond + ", 1)", x.pour(pond, 1), -1);
        }
        CHECKS.due("to the brim", x.pour(1, 1), 99);
        CHECKS.due("beyond it", x.pour(1, 1), -1);
        CHECKS.due("pour without a town", new PondRoofs().pour(0, 1), -1);
    }

    private static void stocks() {
        for (int carp = 89; carp <= 99; carp++) {
            for (int n = 1; n <= 10; n++) {
                PondRoofs x = Checks.town("p;pf" + carp);
                boolean may = n <= 9 && carp + n <= 99;
                CHECKS.due("stock(1, " + n + ") to " + carp, x.stock(1, n), may ? carp + n : -1);
                CHECKS.due("its carp", x.pond(1, 7), may ? carp + n : carp);
                CHECKS.due("no pike comes", x.pond(1, 8), 0);
                CHECKS.due("acts", x.count(18), may ? 1 : 0);
            }
        }
        for (int pikes = 0; pikes <= 9; pikes++) {
            PondRoofs x = Checks.town("pf99;pg" + pikes);
            CHECKS.due("a pike to " + pikes, x.stock(1, 0), pikes < 9 ? pikes + 1 : -1);
            CHECKS.due("its pikes", x.pond(1, 8), Math.min(9, pikes + 1));
            CHECKS.due("no carp comes", x.pond(1, 7), 0);
            CHECKS.due("a pike beside 99 carp", x.stock(0, 0), 1);
        }
        PondRoofs x = Checks.town("pw0;p");
        int[] wrong = {-1, 10, Integer.MAX_VALUE, Integer.MIN_VALUE};
        for (int n : wrong) {
            CHECKS.due("stock(0, " + n + ")", x.stock(0, n), -1);
        }
        int[] noPonds = {-1, 2, 7, Integer.MAX_VALUE, Integer.MIN_VALUE};
        for (int pond : noPonds) {
            CHECKS.due("stock(" + pond + ", 0)", x.stock(pond, 0), -1);
            CHECKS.due("stock(" + pond + ", 1)", x.stock(pond, 1), -1);
        }
        CHECKS.due("without water, too", x.stock(0, 9), 9);
        CHECKS.due("stock without a town", new PondRoofs().stock(0, 1), -1);
    }

    // ---- a day

    private static PondRoofs dayOf(String town) {
        PondRoofs x = Checks.town(town);
        CHECKS.due("a day of " + town, x.days(1), 1);
        return x;
    }

    private static void behindADay(String town, int what, int... want) {
        PondRoofs x = dayOf(town);
        for (int i = 0; i < want.length; i++) {
            CHECKS.due(town + ": pond(" + i + ", " + what + ")", x.pond(i, what), want[i]);
        }
    }

    /** Water below m: nothing is bred. */
    private static void carpGoAlong() {
        behindADay("sd0m9;pw8f0;pw0f5;im1o1", 7, 0, 5);
        behindADay("sd0m9;pw8f1;pw0f5;im1o1", 7, 0, 6);
        behindADay("sd0m9;pw8f2;pw0f5;im9o1", 7, 1, 6);
        behindADay("sd0m9;pw8f9;pw0f97;im1o1", 7, 8, 98);
        behindADay("sd0m9;pw8f9;pw0f98;im1o1", 7, 8, 99);
        behindADay("sd0m9;pw8f9;pw0f99;im1o1", 7, 9, 99);
        behindADay("sd0m9;pw0f98;pw8f9;im1o1", 7, 99, 8);
        behindADay("sd0m9;pw0f99;pw8f9;im1o1", 7, 99, 9);
        behindADay("sd0m9;pw8f5;pw7f5;im1o1", 7, 5, 5);
        behindADay("sd0m9;pw8f5;pw6f5;im1o1", 7, 4, 6);
        behindADay("sd0m9;pw8f5;pw1f5;im1", 7, 5, 5);
        behindADay("sd0m9;pw8f5;pw0c1f5;im1o1", 7, 4, 6);
        behindADay("sd0m9;pw8f5;pw1c1f5;im1o1", 7, 5, 5);
        behindADay("sd0m9;pw8f5;pw0f5;im1h7o1", 7, 4, 6);
        behindADay("sd0m9;pw8f5;pw1f5;im1h8o1", 7, 5, 5);
        behindADay("sd0m9;pw8f5;pw0f5;im1o1;im1o1", 7, 3, 7);
    }

    private static void pikesGoAlong() {
        behindADay("sd0m9;pw8f0g0;pw0f50g3;im1o1", 8, 0, 3);
        behindADay("sd0m9;pw8f9g1;pw0f50g3;im1o1", 8, 0, 4);
        behindADay("sd0m9;pw8f9g2;pw0f50g7;im1o1", 8, 1, 8);
        behindADay("sd0m9;pw8f9g2;pw0f50g8;im1o1", 8, 1, 9);
        behindADay("sd0m9;pw8f9g2;pw0f50g9;im1o1", 8, 2, 9);
        behindADay("sd0m9;pw0f50g8;pw8f9g2;im1o1", 8, 9, 1);
        behindADay("sd0m9;pw0f50g9;pw8f9g2;im1o1", 8, 9, 2);
        behindADay("sd0m9;pw8f9g2;pw0f99g3;im1o1", 8, 1, 4);
        behindADay("sd0m9;pw8f9g2;pw8f50g3;im1o1", 8, 2, 3);
        behindADay("sd0m9;pw8f9g2;pw1f50g3;im1", 8, 2, 3);
    }

    private static void rainedAndOver() {
        int[] water = {0, 6, 7, 8, 9, 10};
        int[] behind = {3, 9, 10, 10, 10, 10};
        int[] over = {0, 0, 0, 1, 2, 3};
        for (int i = 0; i < water.length; i++) {
            PondRoofs x = dayOf("sr3d0;p;pc10w" + water[i]);
            CHECKS.due("water behind rain on " + water[i], x.pond(1, 0), behind[i]);
            CHECKS.due("over from " + water[i], x.count(10), over[i]);
        }
        PondRoofs x = dayOf("sr9d0;pw60;pw55;pw51;pw50");
        CHECKS.due("over from all", x.count(10), 9 + 4);
        x.days(1);
        CHECKS.due("over from both days", x.count(10), 9 + 4 + 9 + 9 + 9 + 8);
        CHECKS.due("without rain", dayOf("sd0;pw60").count(10), 0);
    }

    private static void driedAndLeaked() {
        for (int dry = 0; dry <= 9; dry += 3) {
            for (int leak = 0; leak <= 9; leak += 3) {
                for (int water = Math.max(0, dry + leak - 1); water <= dry + leak + 1; water++) {
                    behindADay("sd" + dry + ";p;pe" + leak + "w" + water, 0, 30 - dry, Math.max(0, water - dry - leak));
                }
            }
        }
        // the rain comes first, and what is over then is not there to dry
        behindADay("sr5d5;pw10c10;pw4c10;pw0c10", 0, 5, 4, 0);
        behindADay("sr2d5;pw3c10;pw2c10;pw4c10", 0, 0, 0, 1);
    }

    private static void lifeWithoutWater() {
        behindADay("sd1m9;pw0f9g3;pw1f9g3;pw2f9g3;pw3f9g3", 7, 0, 0, 3, 3);
        behindADay("sd1m9;pw0f9g3;pw1f9g3;pw2f9g3;pw3f9g3", 8, 0, 0, 3, 3);
        behindADay("sr1d0m0;pw0f9g3", 7, 3);
        behindADay("sd1m0;pw1f8;pw2f8", 7, 0, 10);
    }

    /** Water 1 with m 9: nothing is bred. */
    private static void eaten() {
        for (int pikes = 0; pikes <= 9; pikes++) {
            for (int carp = 0; carp <= 20; carp++) {
                PondRoofs x = dayOf("sd0m9;p;pw1f" + carp + "g" + pikes);
                CHECKS.due(carp + " carp left by " + pikes + " pikes", x.pond(1, 7), carp > 2 * pikes ? carp - 2 * pikes : 0);
                CHECKS.due(pikes + " pikes by " + carp + " carp", x.pond(1, 8), carp < pikes ? pikes - 1 : pikes);
            }
        }
    }

    private static void bred() {
        for (int m = 0; m <= 9; m++) {
            for (int water = Math.max(1, m - 1); water <= m + 1; water++) {
                behindADay("sd0m" + m + ";pf8w" + water, 7, water >= m ? 10 : 8);
            }
        }
        for (int carp = 0; carp <= 99; carp++) {
            behindADay("p;pf" + carp, 7, 0, Math.min(99, carp + carp / 4));
        }
        behindADay("pf10g3;pf9g3;pf12g4;pf11g4", 7, 5, 3, 5, 3);
        // what is left behind the rain and the sun counts
        behindADay("sr3d1m5;pw2f8;pw3f8", 7, 8, 10);
    }

    private static void orderOfADay() {
        // the rain's room is what flowed before it: 9 over would be, were it rained first
        PondRoofs x = dayOf("sr9d0;pw60;pw42;im9o1");
        CHECKS.due("water", x.pond(0, 0), 60);
        CHECKS.due("over", x.count(10), 0);
        CHECKS.due("water of the other", x.pond(1, 0), 60);
        // a carp that went along lives in the other pond the same day
        behindADay("sd1m9;pw3f1;pw1;im1o1", 7, 0, 1);
        behindADay("sd1m9;pw3f1g1;pw0;im1o1", 7, 0, 0);
        behindADay("sd1m9;pw3f1g1;pw0;im1o1", 8, 0, 0);
        behindADay("sd0m9;pw3f1;pw0g1;im1o1", 7, 0, 0);
        behindADay("sd0m9;pw3f1;pw0g1;im1o1", 8, 0, 1);
    }

    // ---- days and years

    private static void daysAndYearsRefused() {
        int[] wrong = {0, -1, 61, 62, Integer.MAX_VALUE, Integer.MIN_VALUE};
        PondRoofs none = new PondRoofs();
        PondRoofs x = Checks.town("p");
        for (int n : wrong) {
            CHECKS.due("days(" + n + ")", x.days(n), -1);
            CHECKS.due("years(" + n + ", 3)", x.years(n, 3), -1);
            CHECKS.due("the day stays", x.count(6), 0);
            CHECKS.due("days(" + n + ") without a town", none.days(n), -1);
        }
        CHECKS.due("days(1) without a town", none.days(1), -1);
        CHECKS.due("years(1) without a town", none.years(1, 3), -1);
        CHECKS.due("days(1)", x.days(1), 1);
        CHECKS.due("days(60)", x.days(60), 61);
        CHECKS.due("days(59)", x.days(59), 120);
        CHECKS.due("years(1)", x.years(1, 3), 121);
        CHECKS.due("years(60)", x.years(60, 3), 181);
        CHECKS.due("years(59)", x.years(59, 3), 240);
    }

    private static PondRoofs onDay(int day) {
        PondRoofs x = Checks.town("sr1d0;pw0c99");
        for (int i = 0; i < day / 60; i++) {
            x.days(60);
        }
        if (day % 60 > 0) {
            x.days(day % 60);
        }
        CHECKS.due("the day", x.count(6), day);
        return x;
    }

    private static void lastDay() {
        int[] spans = {1, 2, 59, 60};
        for (int n : spans) {
            CHECKS.due("days(" + n + ") to 9998", onDay(LAST - 1 - n).days(n), LAST - 1);
            CHECKS.due("days(" + n + ") to 9999", onDay(LAST - n).days(n), LAST);
            CHECKS.due("years(" + n + ") to 9999", onDay(LAST - n).years(n, 1), LAST);
            PondRoofs x = onDay(LAST - n + 1);
            CHECKS.due("days(" + n + ") to 10000", x.days(n), -1);
            CHECKS.due("years(" + n + ") to 10000", x.years(n, 1), -1);
            CHECKS.due("no day went by", x.count(6), LAST - n + 1);
            CHECKS.due("one day less goes by", n == 1 ? LAST : x.days(n - 1), LAST);
        }
        PondRoofs x = onDay(LAST);
        CHECKS.due("none goes by then", x.days(1), -1);
        CHECKS.due("nor in years", x.years(1, 9), -1);
        CHECKS.due("nor behind an image", x.image(), LAST);
        CHECKS.due("undone", x.undo(), 39);
        CHECKS.due("a day again", x.days(1), LAST);
        CHECKS.due("none goes by then", x.days(1), -1);
        CHECKS.due("back", x.back(), LAST);
        CHECKS.due("none goes by then", x.days(1), -1);
        CHECKS.due("another town", Checks.text(x, 0, "p"), 1);
        CHECKS.due("its first day", x.days(1), 1);
    }

    // ---- the log and acts

    /** It rains 1 a day: what is logged is the day's number up to 99, and below 50 it is bare. */
    private static void logOfSixty() {
        int[] ages = {0, 1, 2, 59, 60, 61, 62, 99, 101, 120, 161};
        for (int age : ages) {
            PondRoofs x = Checks.town("sr1d0m9;pw0c99n50f3");
            for (int left = age; left > 0; left -= 60) {
                x.days(Math.min(60, left));
            }
            int length = Math.min(60, age);
            CHECKS.due("how long behind " + age, x.count(17), length);
            for (int i = 0; i < length; i++) {
                int day = Math.min(99, age - i);
                CHECKS.due("log(" + i + ", 0) behind " + age, x.log(i, 0), day);
                CHECKS.due("log(" + i + ", 1) behind " + age, x.log(i, 1), day < 50 ? 1 : 0);
            }
            int[] wrong = {-1, length, 60, Integer.MAX_VALUE, Integer.MIN_VALUE};
            for (int i : wrong) {
                CHECKS.due("log(" + i + ", 0) behind " + age, x.log(i, 0), -1);
            }
            int[] noWhats = {-1, 3, Integer.MAX_VALUE, Integer.MIN_VALUE};
            for (int what : noWhats) {
                CHECKS.due("log(0, " + what + ")", x.log(0, what), -1);
            }
            CHECKS.due("log(0, 2)", x.log(0, 2), age == 0 ? -1 : 3);
        }
        PondRoofs need = dayOf("sd0;pw9n10;pw10n10;pw11n10;pw0n0");
        CHECKS.due("less than their need alone", need.log(0, 1), 1);
        CHECKS.due("log without a town", new PondRoofs().log(0, 0), -1);
    }

    private static void logBehindUndone() {
        int[] ages = {1, 39, 40, 41, 59, 60, 61, 99, 100, 101, 140};
        for (int age : ages) {
            PondRoofs x = Checks.town("sr1d0;pw0c99");
            for (int left = age; left > 0; left -= 60) {
                x.days(Math.min(60, left));
            }
            int undone = 0;
            while (x.undo() != -1) {
                undone++;
            }
            int day = age - undone;
            CHECKS.due("undone of " + age, undone, Math.min(40, age));
            CHECKS.due("the day", x.count(6), day);
            CHECKS.due("the log is as it was", x.count(17), Math.min(60, day));
            for (int i = 0; i < Math.min(60, day); i++) {
                CHECKS.due("log(" + i + ", 0) then", x.log(i, 0), Math.min(99, day - i));
            }
            CHECKS.due("no further one", x.log(Math.min(60, day), 0), -1);
        }
    }

    private static void fortyActs() {
        int[] counts = {0, 1, 39, 40, 41, 42, 79, 80, 81, 120, 121};
        for (int acts : counts) {
            PondRoofs x = Checks.town("p;p;i");
            for (int i = 0; i < acts; i++) {
                CHECKS.due("an act", x.key(0, i % 2 == 0), true);
                CHECKS.due("that can be undone", x.count(18), Math.min(40, i + 1));
            }
            for (int left = Math.min(40, acts) - 1; left >= 0; left--) {
                CHECKS.due("undo", x.undo(), left);
                int done = acts - Math.min(40, acts) + left;
                CHECKS.due("as it was", x.count(15), done % 2);
                CHECKS.due("still can be", x.count(18), left);
            }
            CHECKS.due("nothing to undo", x.undo(), -1);
            CHECKS.due("as it was", x.count(15), (acts - Math.min(40, acts)) % 2);
            CHECKS.due("an act again", x.stock(0, 1), 1);
            CHECKS.due("one can be undone", x.undo(), 0);
        }
        CHECKS.due("undo without a town", new PondRoofs().undo(), -1);
    }

    private static void dayByDayUndone() {
        PondRoofs x = Checks.town("sr9d0m1;pw55f8g1;pw0f20;io1m9");
        int[][] seen = new int[8][];
        for (int day = 0; day < 8; day++) {
            seen[day] = all(x);
            if (day % 2 == 0) {
                x.days(1);
            } else {
                x.years(1, day);
            }
        }
        for (int day = 7; day >= 0; day--) {
            CHECKS.due("undo", x.undo(), day);
            int[] got = all(x);
            for (int i = 0; i < got.length; i++) {
                CHECKS.due("day " + day + " again, " + i, got[i], seen[day][i]);
            }
        }
        // refused calls, questions, laws, odds, measures and images are no acts
        PondRoofs y = Checks.town("p;p;i");
        Checks.text(y, 1, "y:1");
        Checks.text(y, 2, "c0;d1");
        y.law(0);
        y.odds(0, 1);
        y.measured(0, 1);
        y.image();
        y.pour(0, 10);
        y.stock(0, 10);
        y.days(61);
        y.key(0, false);
        y.perform(0);
        y.run(0, 0);
        y.ahead(0, 9);
        y.keys(9);
        CHECKS.due("no act", y.count(18), 0);
        CHECKS.due("nothing to undo", y.undo(), -1);
    }

    private static int[] all(PondRoofs x) {
        int[] seen = new int[19 + 2 * 3];
        for (int what = 0; what < 18; what++) {
            seen[what] = x.count(what);
        }
        seen[18] = x.log(0, 0);
        for (int pond = 0; pond < 2; pond++) {
            seen[19 + 3 * pond] = x.pond(pond, 0);
            seen[20 + 3 * pond] = x.pond(pond, 7);
            seen[21 + 3 * pond] = x.pond(pond, 8);
        }
        return seen;
    }

    // ---- draws

    private static void stormDraws() {
        for (long seed = -40; seed < 40; seed++) {
            Draws draws = new Draws(seed);
            int first = draws.next(100);
            int rain = draws.next(10);
            int[] storms = {0, first - 1, first, first + 1, first + 2, 99};
            for (int storm : storms) {
                if (storm < 0 || storm > 99) {
                    continue;
                }
                PondRoofs x = Checks.town("sr2d1;pw5c99");
                x.odds(0, storm);
                CHECKS.due("a day by " + seed, x.years(1, seed), 1);
                CHECKS.due("storm " + storm + " by a draw of " + first, x.pond(0, 0), 6 + (first < storm ? rain : 0));
            }
            PondRoofs y = Checks.town("sr2d1;pw5c99");
            y.years(1, seed);
            CHECKS.due("20 at first by a draw of " + first, y.pond(0, 0), 6 + (first < 20 ? rain : 0));
            PondRoofs z = Checks.town("sr2d1;pw99c99");
            z.odds(0, first == 99 ? 98 : first + 1);
            z.years(1, seed);
            CHECKS.due("what a storm rains over", z.count(10), 2 + (first == 99 ? 0 : rain));
        }
    }

    private static void pikeDraws() {
        for (long seed = -40; seed < 40; seed++) {
            Draws draws = new Draws(seed);
            draws.next(100);
            int second = draws.next(100);
            int[] odds = {0, second - 1, second, second + 1, second + 2, 99};
            for (int ponds = 1; ponds <= 7; ponds++) {
                Draws behind = new Draws(seed);
                behind.next(100);
                behind.next(100);
                int where = behind.next(ponds);
                int pike = odds[(ponds + (int) Math.abs(seed)) % odds.length];
                if (pike < 0 || pike > 99) {
                    continue;
                }
                PondRoofs x = Checks.town("pf9;pf9;pf9;pf9;pf9;pf9;pf9".substring(0, 4 * ponds - 1));
                x.odds(0, 0);
                x.odds(1, pike);
                x.years(1, seed);
                for (int i = 0; i < ponds; i++) {
                    CHECKS.due("pike " + pike + " by a draw of " + second + ": pond " + i, x.pond(i, 8),
                        second < pike && i == where ? 1 : 0);
                }
                CHECKS.due("no rain", x.pond(0, 0), 29);
            }
        }
    }

    private static void ninePikes() {
        for (int pikes = 7; pikes <= 9; pikes++) {
            PondRoofs x = Checks.town("pf99g" + pikes);
            x.odds(0, 0);
            x.odds(1, 99);
            Draws draws = new Draws(5);
            draws.next(100);
            CHECKS.due("the draw is below 99", draws.next(100) < 99, true);
            x.years(1, 5);
            CHECKS.due("a pike more than " + pikes, x.pond(0, 8), Math.min(9, pikes + 1));
            CHECKS.due("undone", x.undo(), 0);
            CHECKS.due("with what was ahead of the day", x.pond(0, 8), pikes);
        }
        // the pike that came ahead of the day eats on it
        PondRoofs y = Checks.town("sd0m9;pw1f5");
        y.odds(0, 0);
        y.odds(1, 99);
        y.years(1, 5);
        CHECKS.due("carp", y.pond(0, 7), 3);
    }

    private static void drawsGoOn() {
        int[] storms = {40, 20, 0, 0, 99, 50};
        int[] pikes = {60, 0, 60, 0, 99, 0};
        for (int i = 0; i < storms.length; i++) {
            for (long seed : new long[] {0, 1, -1, 77, Long.MAX_VALUE, Long.MIN_VALUE}) {
                sixtyDays("sd2;pw50c99l0n0;pw50c99f99", storms[i], pikes[i], seed);
                // where each has nine pikes already, the pond is drawn all the same
                sixtyDays("sd2m0;pw50c99f99g9;pw50c99f99g9", storms[i], pikes[i], seed);
            }
        }
        eachCallBeginsWithItsSeed();
    }

    /** The draws of a day begin where those of the day ahead ended; one that can tell nothing is drawn, too. */
    private static void sixtyDays(String town, int storm, int pike, long seed) {
        PondRoofs x = Checks.town(town);
        x.odds(0, storm);
        x.odds(1, pike);
        Draws draws = new Draws(seed);
        int water = 50;
        for (int day = 0; day < 60; day++) {
            int rain = 0;
            if (draws.next(100) < storm) {
                rain = draws.next(10);
            } else if (draws.next(100) < pike) {
                draws.next(2);
            }
            water = Math.max(0, Math.min(99, water + rain) - 2);
        }
        CHECKS.due("years", x.years(60, seed), 60);
        CHECKS.due("sixty days by " + storm + ", " + pike + ", " + seed, x.pond(0, 0), water);
    }

    private static void eachCallBeginsWithItsSeed() {
        PondRoofs whole = Checks.town("sd2;pw50c99");
        PondRoofs parts = Checks.town("sd2;pw50c99");
        whole.odds(0, 99);
        parts.odds(0, 99);
        whole.years(2, 11);
        parts.years(1, 11);
        parts.years(1, 11);
        Draws draws = new Draws(11);
        draws.next(100);
        int first = draws.next(10);
        draws.next(100);
        int second = draws.next(10);
        CHECKS.due("the draws go on", whole.pond(0, 0), 50 - 4 + first + second);
        CHECKS.due("each call begins with its seed", parts.pond(0, 0), 50 - 4 + 2 * first);
    }

    /** Seeds from which x goes round, or comes to bits that a shift with sign would tell otherwise. */
    private static void drawsGoRound() {
        for (int bit = 0; bit < 64; bit++) {
            for (int more = -1; more <= 1; more++) {
                long seed = (1L << bit) + more;
                Draws draws = new Draws(seed);
                int storm = draws.next(100);
                PondRoofs x = Checks.town("sd0;pw0c99");
                x.odds(0, 99);
                x.years(1, seed);
                CHECKS.due("a draw by " + seed, x.pond(0, 0), storm < 99 ? draws.next(10) : 0);
            }
        }
    }

    // ---- images

    private static void images() {
        PondRoofs none = new PondRoofs();
        CHECKS.due("image without a town", none.image(), -1);
        CHECKS.due("back without a town", none.back(), -1);
        PondRoofs x = Checks.town("sr9d0m1;pw55f8g1;pw0f20;io1m9");
        CHECKS.due("back without an image", x.back(), -1);
        CHECKS.due("image on day 0", x.image(), 0);
        CHECKS.due("back with nothing done", x.back(), 0);
        x.days(3);
        x.key(0, false);
        int[] seen = all(x);
        CHECKS.due("an image instead", x.image(), 3);
        CHECKS.due("acts stay behind an image", x.count(18), 4);
        x.years(9, 4);
        x.key(0, true);
        x.stock(0, 9);
        x.stock(1, 0);
        x.undo();
        for (int times = 0; times < 2; times++) {
            CHECKS.due("back", x.back(), 3);
            int[] got = all(x);
            for (int i = 0; i < got.length; i++) {
                CHECKS.due("so again, " + i, got[i], seen[i]);
            }
            CHECKS.due("no act can be undone then", x.count(18), 0);
            CHECKS.due("no act can be undone then", x.undo(), -1);
            CHECKS.due("a day", x.days(1), 4);
            CHECKS.due("it can be undone", x.undo(), 0);
            x.days(50);
        }
        // laws, odds, plans, measures and the tape are not in it
        PondRoofs y = Checks.town("p;p;i");
        y.image();
        Checks.text(y, 1, "y:1");
        Checks.text(y, 2, "d1");
        y.law(0);
        y.odds(0, 1);
        y.odds(1, 2);
        y.measured(0, 1);
        Checks.tape(y, "abc");
        CHECKS.due("back", y.back(), 0);
        int[] whats = {2, 3, 4, 5, 13, 14, 16};
        int[] want = {1, 1, 3, 0, 1, 2, 1};
        for (int i = 0; i < whats.length; i++) {
            CHECKS.due("count(" + whats[i] + ") behind back", y.count(whats[i]), want[i]);
        }
        Checks.text(y, 0, "p;p;i");
        CHECKS.due("no image of this town", y.back(), -1);
        CHECKS.due("one of it", y.image(), 0);
        CHECKS.due("back to it", y.back(), 0);
    }

    private static void imagesOfFullLogs() {
        int[] ages = {59, 60, 61, 99, 100, 101};
        for (int age : ages) {
            PondRoofs x = Checks.town("sr1d0;pw0c99");
            for (int left = age; left > 0; left -= 60) {
                x.days(Math.min(60, left));
            }
            x.image();
            x.years(60, 3);
            x.days(60);
            CHECKS.due("back", x.back(), age);
            CHECKS.due("how long the log is", x.count(17), Math.min(60, age));
            for (int i = 0; i < Math.min(60, age); i++) {
                CHECKS.due("log(" + i + ", 0) again", x.log(i, 0), Math.min(99, age - i));
            }
            x.days(40);
            for (int i = 39; i >= 0; i--) {
                CHECKS.due("undo", x.undo(), i);
            }
            CHECKS.due("nothing further", x.undo(), -1);
            CHECKS.due("the oldest", x.log(Math.min(60, age) - 1, 0), Math.max(1, age - 59));
        }
    }

    private static void counts() {
        PondRoofs none = new PondRoofs();
        int[] first = {GONE, 0, 0, 0, 0, 0, -1, 0, 0, 0, 0, 0, 0, 0, 20, 0, 0, 0, 0, 0, GONE};
        for (int what = -1; what <= 19; what++) {
            CHECKS.due("count(" + what + ") without a town", none.count(what), first[what + 1]);
        }
        PondRoofs x = Checks.town("pw1n2;pw3c4n5f6g7;ia1b0o1;i");
        int[] told = {GONE, 2, 2, 0, 0, 0, -1, 0, 4, 6, 7, 0, -3, 60, 20, 0, 1, 0, 0, 0, GONE};
        for (int what = -1; what <= 19; what++) {
            CHECKS.due("count(" + what + ")", x.count(what), told[what + 1]);
        }
        CHECKS.due("count of the greatest", x.count(Integer.MAX_VALUE), GONE);
        CHECKS.due("count of the least", x.count(Integer.MIN_VALUE), GONE);
        PondRoofs brim = Checks.town("pw99c99n99f99g9;pw99c99n99f99g9");
        CHECKS.due("no room", brim.count(12), 0);
        CHECKS.due("nothing to spare", brim.count(11), 0);
        CHECKS.due("carp", brim.count(8), 198);
        CHECKS.due("pikes", brim.count(9), 18);
    }
}
