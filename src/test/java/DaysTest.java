/** Promises 14 to 17, 19, 20, 43 and 44: days, years, acts undone, the log, plans, images. */
public final class DaysTest {
    private static final Checks CHECKS = new Checks();
    private static final int GONE = -1000000;

    public static void main(String[] args) {
        pipesByNumbers();
        creaturesGoAlong();
        skyOverPonds();
        creaturesLive();
        refusedDays();
        lastDay();
        years();
        undone();
        logBroughtBack();
        runs();
        performed();
        images();
        CHECKS.finish();
    }

    private static void row(String name, PondRoofs x, int what, int... want) {
        for (int i = 0; i < want.length; i++) {
            CHECKS.due(name + ": pond(" + i + ", " + what + ")", x.pond(i, what), want[i]);
        }
    }

    private static void pipesByNumbers() {
        PondRoofs x = Checks.town("sd0;pw30;pw10;pw10;im9o1;ia1b2m9o1;ia0b2m9");
        CHECKS.due("days(1)", x.days(1), 1);
        row("one pipe behind the other", x, 0, 21, 15, 14);
        PondRoofs y = Checks.town("sd0;pw30;pw10;pw10;ia1b2m9o1;im9o1");
        y.days(1);
        row("the other one first", y, 0, 21, 19, 10);
    }

    private static void creaturesGoAlong() {
        PondRoofs x = Checks.town("sd0m9;pw30f4g1;pw10;im9o1");
        x.days(1);
        row("along", x, 7, 3, 0);
        row("along", x, 8, 0, 1);
        PondRoofs y = Checks.town("sd0m9;pw30f4g1;pw1f99g9;im9o1");
        y.days(1);
        row("no place there", y, 7, 2, 99);
        row("no place there", y, 8, 1, 9);
        PondRoofs z = Checks.town("sd0m9;pw30f4g1;pw30f2;im9o1");
        z.days(1);
        row("nothing flows", z, 7, 2, 2);
        row("nothing flows", z, 8, 1, 0);
        PondRoofs u = Checks.town("sd0;pw9f5;pw99c99f98;ia1b0m1o1");
        u.days(1);
        row("against the order of the ends", u, 7, 7, 99);
    }

    private static void skyOverPonds() {
        PondRoofs x = Checks.town("sr5d1;pw58;pw0e9n1;pw3e2n9");
        x.days(1);
        row("a day", x, 0, 59, 0, 5);
        CHECKS.due("over", x.count(10), 3);
        CHECKS.due("log water", x.log(0, 0), 64);
        CHECKS.due("log bare", x.log(0, 1), 6);
        CHECKS.due("log carp", x.log(0, 2), 0);
        x.days(1);
        row("two days", x, 0, 59, 0, 7);
        CHECKS.due("over in all", x.count(10), 7);
    }

    private static void creaturesLive() {
        PondRoofs x = Checks.town("sd0m5;pw5f8g2;pw4f8;pw0f5g5;pw9f2g3;pw9f99;pw9g1;pw9f3g3");
        x.days(1);
        row("carp", x, 7, 5, 8, 0, 0, 99, 0, 0);
        row("pikes", x, 8, 2, 0, 0, 2, 0, 0, 3);
        CHECKS.due("log carp", x.log(0, 2), 112);
        PondRoofs y = Checks.town("sd1m0;pw1f8g1;pw2f8");
        y.days(1);
        row("the water that is left counts", y, 7, 0, 10);
        row("the water that is left counts", y, 8, 0, 0);
        PondRoofs z = Checks.town("sd1m5;pw5f8;pw6f8;pw9f79;pw9f80;pw9f3");
        z.days(1);
        row("bred", z, 7, 8, 10, 98, 99, 3);
    }

    private static void refusedDays() {
        CHECKS.due("days without a town", new PondRoofs().days(1), -1);
        CHECKS.due("years without a town", new PondRoofs().years(1, 1), -1);
        PondRoofs x = Checks.town("p");
        int[] wrong = {0, -1, 61, Integer.MAX_VALUE, Integer.MIN_VALUE};
        for (int n : wrong) {
            CHECKS.due("days(" + n + ")", x.days(n), -1);
            CHECKS.due("years(" + n + ")", x.years(n, 5), -1);
        }
        CHECKS.due("the day stays", x.count(6), 0);
        CHECKS.due("days(60)", x.days(60), 60);
        CHECKS.due("years(60)", x.years(60, 5), 120);
    }

    private static void lastDay() {
        PondRoofs x = Checks.town("sd0;pw60;pw0;im9o1");
        Checks.text(x, 1, "y:t>9999?1");
        Checks.text(x, 2, "d2");
        Checks.text(x, 2, "d1;d1");
        x.law(0);
        for (int i = 1; i <= 166; i++) {
            x.days(60);
        }
        CHECKS.due("the day", x.count(6), 9960);
        CHECKS.due("beyond", x.days(40), -1);
        CHECKS.due("years beyond", x.years(40, 1), -1);
        CHECKS.due("the day stays", x.days(38), 9998);
        CHECKS.due("run beyond", x.run(0, 0), 0);
        CHECKS.due("perform beyond", x.perform(0), 0);
        CHECKS.due("run up to it", x.run(1, 0), 1);
        CHECKS.due("perform up to it", x.perform(1), 1);
        CHECKS.due("the last day", x.count(6), 9999);
        CHECKS.due("no day more", x.days(1), -1);
        CHECKS.due("no year more", x.years(1, 1), -1);
        CHECKS.due("ahead days go on", x.ahead(1, 3), 2);
        CHECKS.due("undo", x.undo(), 39);
        CHECKS.due("the day ahead", x.count(6), 9998);
        CHECKS.due("days(1)", x.days(1), 9999);
    }

    private static void years() {
        long[] seeds = {0, 1, -1, 42, Long.MIN_VALUE, Long.MAX_VALUE, 123456789012345L};
        for (long seed : seeds) {
            PondRoofs x = Checks.town("sr1d2;pw5c99;pw5c99;pw5c99f50");
            x.odds(0, 40);
            x.odds(1, 50);
            Draws draws = new Draws(seed);
            int water = 5;
            int[] pikes = new int[3];
            for (int day = 0; day < 4; day++) {
                if (draws.next(100) < 40) {
                    water += draws.next(10);
                } else if (draws.next(100) < 50) {
                    pikes[draws.next(3)]++;
                }
                water -= 1;
                pikes[0] = 0; // a pike without carp goes the same day
                pikes[1] = 0;
            }
            CHECKS.due("years", x.years(4, seed), 4);
            CHECKS.due("acts", x.count(18), 4);
            row("by seed " + seed, x, 0, water, water, water);
            row("by seed " + seed, x, 8, pikes);
            CHECKS.due("log", x.log(0, 0), 3 * water);
            for (int i = 3; i >= 0; i--) {
                CHECKS.due("undo", x.undo(), i);
            }
            row("undone", x, 0, 5, 5, 5);
            row("undone", x, 8, 0, 0, 0);
        }
        PondRoofs full = Checks.town("pg9f99w60");
        full.odds(0, 0);
        full.odds(1, 99);
        full.years(1, 7);
        CHECKS.due("nine pikes stay nine", full.pond(0, 8), 9);
    }

    private static void undone() {
        PondRoofs x = Checks.town("sr9d0;pw58f3;p;io1");
        CHECKS.due("nothing to undo", x.undo(), -1);
        x.key(0, false);
        x.pour(0, 2);
        x.stock(0, 4);
        x.stock(1, 0);
        x.days(2);
        CHECKS.due("acts", x.count(18), 6);
        CHECKS.due("over", x.count(10), 18);
        CHECKS.due("undo", x.undo(), 5);
        CHECKS.due("over", x.count(10), 9);
        CHECKS.due("the day", x.count(6), 1);
        CHECKS.due("log", x.count(17), 1);
        CHECKS.due("undo", x.undo(), 4);
        CHECKS.due("over", x.count(10), 0);
        CHECKS.due("log", x.log(0, 0), -1);
        CHECKS.due("pikes", x.pond(1, 8), 1);
        CHECKS.due("undo", x.undo(), 3);
        CHECKS.due("pikes", x.pond(1, 8), 0);
        CHECKS.due("carp", x.pond(0, 7), 7);
        CHECKS.due("undo", x.undo(), 2);
        CHECKS.due("carp", x.pond(0, 7), 3);
        CHECKS.due("undo", x.undo(), 1);
        CHECKS.due("water", x.pond(0, 0), 58);
        CHECKS.due("undo", x.undo(), 0);
        CHECKS.due("open", x.count(15), 1);
        CHECKS.due("nothing to undo", x.undo(), -1);
    }

    private static void logBroughtBack() {
        PondRoofs x = Checks.town("sd0r1;pw0c99n50");
        x.days(60);
        CHECKS.due("log", x.count(17), 60);
        CHECKS.due("the oldest", x.log(59, 0), 1);
        x.days(30);
        CHECKS.due("log", x.count(17), 60);
        CHECKS.due("the latest", x.log(0, 0), 90);
        CHECKS.due("the oldest", x.log(59, 0), 31);
        CHECKS.due("bare", x.log(41, 1), 1);
        CHECKS.due("not bare", x.log(40, 1), 0);
        CHECKS.due("beyond", x.log(60, 0), -1);
        CHECKS.due("below", x.log(-1, 0), -1);
        CHECKS.due("no such what", x.log(0, 3), -1);
        CHECKS.due("no such what", x.log(0, -1), -1);
        for (int i = 39; i >= 0; i--) {
            CHECKS.due("undo", x.undo(), i);
            CHECKS.due("log", x.count(17), Math.min(60, 50 + i));
            CHECKS.due("the latest", x.log(0, 0), 50 + i);
            CHECKS.due("the oldest", x.log(Math.min(59, 49 + i), 0), Math.max(1, i - 9));
        }
        CHECKS.due("nothing to undo", x.undo(), -1);
        CHECKS.due("the day", x.count(6), 50);
    }

    private static void runs() {
        PondRoofs x = Checks.town("sd3;pw30n25c35;pw10n10;i");
        String[] plans = {"d0", "w00", "c0;d1", "o0;w05;w01"};
        int[] behind = {0, 0, 0, 2};
        int[] bare = {0, 0, 0, 0};
        for (int i = 0; i < 4; i++) {
            Checks.text(x, 2, plans[i]);
            CHECKS.due("run(" + plans[i] + ", 0)", x.run(i, 0), behind[i]);
            CHECKS.due("run(" + plans[i] + ", 1)", x.run(i, 1), bare[i]);
        }
        CHECKS.due("no such plan", x.run(4, 0), GONE);
        CHECKS.due("no such plan", x.run(-1, 0), GONE);
        CHECKS.due("no such what", x.run(0, 2), GONE);
        CHECKS.due("no such what", x.run(0, -1), GONE);
        PondRoofs none = new PondRoofs();
        Checks.text(none, 2, "d1");
        CHECKS.due("run without a town", none.run(0, 0), GONE);
        CHECKS.due("perform without a town", none.perform(0), -1);
        PondRoofs y = Checks.town("sd3;pw30n25c35;pw10n10;i");
        Checks.text(y, 2, "d1;w13;d1;o0;d1;c1");
        Checks.text(y, 2, "d2;w29");
        Checks.text(y, 2, "d9;d9");
        CHECKS.due("up to what is not there", y.run(0, 0), 5);
        CHECKS.due("bare then", y.run(0, 1), 3);
        CHECKS.due("a pond that is not there", y.run(1, 0), 1);
        CHECKS.due("bare then", y.run(1, 1), 3);
        CHECKS.due("all can be", y.run(2, 0), -1);
        CHECKS.due("nothing is done", y.count(6), 0);
        CHECKS.due("nothing is done", y.count(7), 40);
        CHECKS.due("nothing is done", y.count(18), 0);
        CHECKS.due("nothing is done", y.count(17), 0);
    }

    private static void performed() {
        PondRoofs x = Checks.town("sd3;pw30c35;pw10;im9");
        Checks.text(x, 2, "o0;d2;w15;c0;c0;d1");
        CHECKS.due("no such plan", x.perform(1), -1);
        CHECKS.due("no such plan", x.perform(-1), -1);
        CHECKS.due("steps done", x.perform(0), 4);
        CHECKS.due("the day", x.count(6), 2);
        CHECKS.due("acts", x.count(18), 5);
        CHECKS.due("log", x.count(17), 2);
        row("performed", x, 0, 14, 19);
        CHECKS.due("closed", x.count(15), 0);
        CHECKS.due("undo closes nothing more", x.undo(), 4);
        CHECKS.due("open", x.count(15), 1);
        PondRoofs y = Checks.town("p");
        Checks.text(y, 2, "d3;w09");
        CHECKS.due("all steps", y.perform(0), 2);
        CHECKS.due("acts", y.count(18), 4);
        CHECKS.due("water", y.count(7), 36);
    }

    private static void images() {
        PondRoofs x = Checks.town("sr5d0;pw58f9g2n1;pw2n50;i");
        CHECKS.due("no image", x.back(), -1);
        x.days(3);
        int over = x.count(10);
        CHECKS.due("image", x.image(), 3);
        x.days(60);
        x.key(0, true);
        x.stock(0, 3);
        x.stock(0, 0);
        x.pour(1, 1);
        CHECKS.due("back", x.back(), 3);
        CHECKS.due("the day", x.count(6), 3);
        CHECKS.due("over", x.count(10), over);
        CHECKS.due("log", x.count(17), 3);
        CHECKS.due("log", x.log(2, 0), 67);
        CHECKS.due("log", x.log(3, 0), -1);
        CHECKS.due("keys", x.count(15), 0);
        row("back", x, 0, 60, 17);
        row("back", x, 7, 0, 0);
        row("back", x, 8, 2, 0);
        CHECKS.due("nothing to undo", x.undo(), -1);
        CHECKS.due("acts", x.count(18), 0);
        x.days(60);
        x.days(60);
        CHECKS.due("back again", x.back(), 3);
        int[] water = {77, 72, 67};
        for (int i = 0; i < 3; i++) {
            CHECKS.due("the log is so again", x.log(i, 0), water[i]);
        }
        x.days(2);
        CHECKS.due("undo behind back", x.undo(), 1);
        CHECKS.due("another image", x.image(), 4);
        x.days(1);
        CHECKS.due("the latest image", x.back(), 4);
        CHECKS.due("a town with a fault", Checks.text(x, 0, "q"), -1);
        CHECKS.due("the image stays", x.back(), 4);
        PondRoofs y = Checks.town("sd0;pw10");
        y.days(1);
        y.image();
        y.undo();
        y.pour(0, 9);
        y.days(1);
        CHECKS.due("another log", y.log(0, 0), 19);
        y.back();
        CHECKS.due("the log of the image", y.log(0, 0), 10);
        Checks.text(x, 0, "p");
        CHECKS.due("no image of this town", x.back(), -1);
    }
}
