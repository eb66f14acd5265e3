/** Terms 3, promises 19 to 42: bounds of what would be and of what is asked of a town, and both their sides. */
public final class OutlookBoundsTest {
    private static final Checks CHECKS = new Checks();
    private static final int GONE = -1000000;
    private static final int[] FAR = {Integer.MIN_VALUE, Integer.MAX_VALUE};

    public static void main(String[] args) {
        stepsThatCanBe();
        stepsAtTheLastDay();
        runsOfSixteen();
        runsRefused();
        performs();
        ahead();
        behindTheLastDay();
        driesBehindTheLastDay();
        dries();
        bare();
        keys();
        keysAmongMany();
        kept();
        cut();
        rest();
        joinedAndShares();
        apart();
        measured();
        secrets();
        measure();
        walls();
        feuds();
        feudsRefused();
        rests();
        reads();
        darkest();
        rent();
        trend();
        largest();
        eaten();
        CHECKS.finish();
    }

    private static String times(String clause, int n) {
        return String.join(";", java.util.Collections.nCopies(n, clause));
    }

    // ---- plans

    /** Both ways to go through a plan tell behind how many steps the first is that can't be. */
    private static void goes(String town, String plan, int done, int steps, int bare) {
        PondRoofs x = Checks.town(town);
        Checks.text(x, 2, plan);
        CHECKS.due("run(0, 0) of " + plan + " in " + town, x.run(0, 0), done == steps ? -1 : done);
        CHECKS.due("run(0, 1) of " + plan + " in " + town, x.run(0, 1), bare);
        CHECKS.due("perform(0) of " + plan + " in " + town, x.perform(0), done);
        CHECKS.due("bare then", x.bare(), bare);
    }

    private static void stepsThatCanBe() {
        String town = "sd1;pw58n58;pw9n9;io1;i";
        goes(town, "o1", 1, 1, 0);
        goes(town, "o0", 0, 1, 0);
        goes(town, "o2", 0, 1, 0);
        goes(town, "o9", 0, 1, 0);
        goes(town, "c0", 1, 1, 0);
        goes(town, "c1", 0, 1, 0);
        goes(town, "c2", 0, 1, 0);
        goes(town, "d0", 0, 1, 0);
        goes(town, "d1", 1, 1, 1);
        goes(town, "d9", 1, 1, 1);
        goes(town, "w00", 0, 1, 0);
        goes(town, "w01", 1, 1, 0);
        goes(town, "w02", 1, 1, 0);
        goes(town, "w03", 0, 1, 0);
        goes(town, "w19", 1, 1, 0);
        goes(town, "w21", 0, 1, 0);
        goes(town, "w99", 0, 1, 0);
        goes(town, "o1;o1", 1, 2, 0);
        goes(town, "c0;c0", 1, 2, 0);
        goes(town, "c0;o0;c0", 3, 3, 0);
        goes(town, "w01;w01;w01", 2, 3, 0);
        goes(town, "c0;d1;w03;w01", 3, 4, 2);
        goes(town, "c0;d1;w11;w01;w11;d0;d9", 5, 7, 0);
        goes(town, "d0;d9", 0, 2, 0);
        goes("p;p", "o0", 0, 1, 0);
    }

    private static PondRoofs onDay(int day) {
        PondRoofs x = Checks.town("sr1d0;pw0c99n99");
        for (int i = 0; i < day / 60; i++) {
            x.days(60);
        }
        if (day % 60 > 0) {
            x.days(day % 60);
        }
        return x;
    }

    private static void stepsAtTheLastDay() {
        for (int n = 1; n <= 9; n++) {
            for (int late = 0; late <= 1; late++) {
                PondRoofs x = onDay(9999 - n + late);
                Checks.text(x, 2, "d" + n);
                CHECKS.due("run(d" + n + ") on day " + x.count(6), x.run(0, 0), late == 0 ? -1 : 0);
                CHECKS.due("perform(d" + n + ") on day " + x.count(6), x.perform(0), late == 0 ? 1 : 0);
                CHECKS.due("the day", x.count(6), late == 0 ? 9999 : 9999 - n + late);
            }
        }
        PondRoofs x = onDay(9997);
        Checks.text(x, 2, "d1;d2;d1");
        Checks.text(x, 2, "d1;d1;d1");
        CHECKS.due("the second would go beyond", x.run(0, 0), 1);
        CHECKS.due("the third would go beyond", x.run(1, 0), 2);
        CHECKS.due("up to there", x.perform(0), 1);
        CHECKS.due("the day", x.count(6), 9998);
    }

    private static void runsOfSixteen() {
        String town = "sd0;pw0c99n9;pw0";
        String fifteen = times("w01", 15);
        goes(town, fifteen + ";w01", 16, 16, 2);
        goes(town, fifteen + ";w00", 15, 16, 2);
        goes(town, "w00;" + fifteen, 0, 16, 3);
        goes(town, times("w01", 8) + ";d0", 8, 9, 3);
        goes(town, times("w01", 9) + ";d0", 9, 10, 2);
        goes(town, times("w01", 9), 9, 9, 2);
        PondRoofs x = Checks.town("sr1d0;pw0c99");
        Checks.text(x, 2, times("d9", 16));
        CHECKS.due("all can be", x.run(0, 0), -1);
        CHECKS.due("all done", x.perform(0), 16);
        CHECKS.due("the day", x.count(6), 144);
        CHECKS.due("the latest acts", x.count(18), 40);
        CHECKS.due("the log", x.count(17), 60);
    }

    private static void runsRefused() {
        PondRoofs x = Checks.town("p");
        PondRoofs none = new PondRoofs();
        for (int plans = 0; plans <= 4; plans++) {
            int[] wrong = {-1, plans, 4, Integer.MAX_VALUE, Integer.MIN_VALUE};
            for (int plan : wrong) {
                CHECKS.due("run(" + plan + ", 0) of " + plans, x.run(plan, 0), GONE);
                CHECKS.due("run(" + plan + ", 1) of " + plans, x.run(plan, 1), GONE);
                CHECKS.due("perform(" + plan + ") of " + plans, x.perform(plan), -1);
            }
            for (int plan = 0; plan < plans; plan++) {
                CHECKS.due("run(" + plan + ", 0) of " + plans, x.run(plan, 0), -1);
                CHECKS.due("run(" + plan + ", 1) of " + plans, x.run(plan, 1), 0);
                int[] noWhats = {-1, 2, Integer.MAX_VALUE, Integer.MIN_VALUE};
                for (int what : noWhats) {
                    CHECKS.due("run(" + plan + ", " + what + ")", x.run(plan, what), GONE);
                }
                CHECKS.due("run without a town", none.run(plan, 0), GONE);
                CHECKS.due("perform without a town", none.perform(plan), -1);
                CHECKS.due("the step is told without a town", none.step(plan, 0, 0), 2);
            }
            Checks.text(x, 2, "d1");
            Checks.text(none, 2, "d1");
        }
        CHECKS.due("nothing is done", x.count(6), 0);
    }

    private static void performs() {
        PondRoofs x = Checks.town("sd1;pw58;pw9;i");
        Checks.text(x, 2, "o0;d2;w01;c0;w21;d9");
        CHECKS.due("up to what can't be", x.perform(0), 4);
        CHECKS.due("an act each, of days one a day", x.count(18), 5);
        CHECKS.due("the log", x.count(17), 2);
        int[] open = {1, 1, 1, 1, 0};
        int[] day = {2, 2, 1, 0, 0};
        for (int i = 0; i < 5; i++) {
            CHECKS.due("undo", x.undo(), 4 - i);
            CHECKS.due("the keys", x.count(15), open[i]);
            CHECKS.due("the day", x.count(6), day[i]);
        }
        CHECKS.due("nothing more", x.undo(), -1);
    }

    // ---- days ahead

    private static void ahead() {
        PondRoofs x = Checks.town("sd1;pw61c99;p");
        int[] days = {0, 1, 2, 59, 60};
        int[] water = {61, 60, 59, 2, 1};
        for (int i = 0; i < days.length; i++) {
            CHECKS.due("ahead(0, " + days[i] + ")", x.ahead(0, days[i]), water[i]);
        }
        CHECKS.due("ahead(1, 30)", x.ahead(1, 30), 0);
        CHECKS.due("ahead(1, 29)", x.ahead(1, 29), 1);
        int[] wrong = {-1, 61, Integer.MAX_VALUE, Integer.MIN_VALUE};
        for (int n : wrong) {
            CHECKS.due("ahead(0, " + n + ")", x.ahead(0, n), -1);
        }
        noSuchPonds(x, 2);
        PondRoofs none = new PondRoofs();
        noSuchPonds(none, 0);
    }

    /** All promises that ask of one pond refuse alike, each with its own answer. */
    private static void noSuchPonds(PondRoofs x, int ponds) {
        int[] wrong = {-1, ponds, 7, Integer.MAX_VALUE, Integer.MIN_VALUE};
        for (int pond : wrong) {
            CHECKS.due("ahead(" + pond + ", 0) of " + ponds, x.ahead(pond, 0), -1);
            CHECKS.due("dries(" + pond + ") of " + ponds, x.dries(pond), -1);
            CHECKS.due("rest(" + pond + ") of " + ponds, x.rest(pond), -1);
            CHECKS.due("joined(" + pond + ") of " + ponds, x.joined(pond), -1);
            CHECKS.due("measured(" + pond + ", 0) of " + ponds, x.measured(pond, 0), -1);
            CHECKS.due("rent(" + pond + ") of " + ponds, x.rent(pond), GONE);
            CHECKS.due("trend(" + pond + ") of " + ponds, x.trend(pond), GONE);
            CHECKS.refused(x, pond, 0);
        }
        if (ponds == 0) {
            return;
        }
        CHECKS.due("the last one", x.ahead(ponds - 1, 0) >= 0, true);
        CHECKS.due("the last one", x.rest(ponds - 1) >= 0, true);
        CHECKS.due("the last one", x.joined(ponds - 1) > 0, true);
        CHECKS.due("the last one", x.rent(ponds - 1) != GONE, true);
        CHECKS.due("the last one", x.trend(ponds - 1) != GONE, true);
        CHECKS.due("the last one", x.measured(ponds - 1, 0), 1);
    }

    private static void behindTheLastDay() {
        PondRoofs x = Checks.town("sd0;pw99c99n1f9;pw0c99n9;i");
        Checks.text(x, 1, "y:t>9998?1");
        x.law(0);
        for (int i = 0; i < 166; i++) {
            x.days(60);
        }
        CHECKS.due("the last day", x.days(39), 9999);
        CHECKS.due("a pike eats the carp", x.stock(0, 0), 1);
        int[] shut = {x.ahead(1, 60), x.dries(0), x.keys(9), x.kept(9, 0), x.trend(1), x.reads(60)};
        int[] want = {0, -1, -1, 2, 0, 2};
        for (int i = 0; i < shut.length; i++) {
            CHECKS.due("pipe closed, question " + i, shut[i], want[i]);
        }
        CHECKS.due("kept by the pipe", x.kept(9, 1), 1);
        CHECKS.due("carp eaten behind it", x.eaten(60) != GONE, true);
        CHECKS.due("feud behind it", x.feud(0, 1, 0, 0, 9, 1, 1), 81);
        x.key(0, true);
        CHECKS.due("days go on", x.ahead(1, 3), 3);
        CHECKS.due("trend", x.trend(1), 1);
        CHECKS.due("the day stays", x.count(6), 9999);
    }

    /** From the last day on the first pond runs into the second: 5 and 2, 4 and 3 .. 0 and 7. */
    private static void driesBehindTheLastDay() {
        PondRoofs x = Checks.town("sd0;pw5c99b9n1;pw2c99n3;im1o1");
        Checks.text(x, 1, "y:t>9998?1");
        x.law(0);
        for (int i = 0; i < 166; i++) {
            x.days(60);
        }
        CHECKS.due("the last day", x.days(39), 9999);
        for (int n = 1; n <= 9; n++) {
            CHECKS.due("keys for " + n + " days behind the last", x.keys(n), n <= 4 ? 1 : -1);
            CHECKS.due("kept for " + n + " days behind the last", x.kept(n, 0), n <= 4 ? 2 : 1);
        }
        CHECKS.due("runs dry behind the last day", x.dries(0), 5);
    }

    private static void dries() {
        int[] water = {0, 1, 2, 98, 99};
        for (int w : water) {
            CHECKS.due("dries with " + w, Checks.town("sd1;p;pc99w" + w).dries(1), w);
        }
        CHECKS.due("never", Checks.town("sd0;pw1").dries(0), -1);
        CHECKS.due("never by the rain", Checks.town("sr1d1;pw1").dries(0), -1);
        CHECKS.due("dry already, whatever rains", Checks.town("sr9d1;pw0").dries(0), 0);
        CHECKS.due("more than it has", Checks.town("sd9;pw1").dries(0), 1);
        CHECKS.due("by its leak", Checks.town("sd0;pw9e4").dries(0), 3);
        // the first time, though water comes again
        PondRoofs again = Checks.town("sd1;pw2;pw99c99;ia1b0m9o1");
        Checks.text(again, 1, "y:t>2?9");
        again.law(0);
        CHECKS.due("first", again.dries(0), 2);
        CHECKS.due("water comes again", again.ahead(0, 4) > 0, true);
        // 99 of its own and some from a pipe: behind 99, 100 and 101 days
        for (int more = 0; more <= 2; more++) {
            PondRoofs late = Checks.town("sd1;pw99c99b9;pw98c99;im1o1");
            Checks.text(late, 1, "y:t<" + more + "?1");
            late.law(0);
            CHECKS.due("behind " + (98 + more) + " days", late.dries(1), more < 2 ? 98 + more : -1);
        }
    }

    private static void bare() {
        for (int need = 0; need <= 99; need += 33) {
            for (int water = Math.max(0, need - 1); water <= Math.min(99, need + 1); water++) {
                PondRoofs x = Checks.town("pn0;pc99w" + water + "n" + need);
                CHECKS.due(water + " with need " + need, x.bare(), water < need ? 2 : 0);
            }
        }
        CHECKS.due("all seven", Checks.town(times("pw9", 7)).bare(), 127);
        CHECKS.due("none of seven", Checks.town(times("pw10", 7)).bare(), 0);
        CHECKS.due("bare without a town", new PondRoofs().bare(), -1);
    }

    private static void refusedSpans(PondRoofs x, int least, int most) {
        int[] wrong = {least - 1, most + 1, Integer.MAX_VALUE, Integer.MIN_VALUE};
        for (int n : wrong) {
            CHECKS.due("keys(" + n + ")", x.keys(n), -1);
            CHECKS.due("kept(" + n + ", 0)", x.kept(n, 0), -1);
            CHECKS.due("kept(" + n + ", 1)", x.kept(n, 1), -1);
            CHECKS.due("cut(" + n + ")", x.cut(n), -1);
        }
    }

    private static void keys() {
        refusedSpans(Checks.town("sd0;pw99c99n0"), 1, 9);
        PondRoofs none = new PondRoofs();
        PondRoofs never = Checks.town("sd9;pw9n1");
        PondRoofs ever = Checks.town("sd0;p");
        for (int n = 1; n <= 9; n++) {
            CHECKS.due("keys(" + n + ") without a town", none.keys(n), -1);
            CHECKS.due("keys(" + n + ") that none can", never.keys(n), -1);
            CHECKS.due("keys(" + n + ") without need of a pipe", ever.keys(n), 0);
            PondRoofs x = Checks.town("sd1;pw" + (10 + n));
            CHECKS.due("down to the need behind " + n, x.keys(n), 0);
            CHECKS.due("below it a day later", x.keys(n + 1), -1);
        }
        CHECKS.due("bare now, not behind the day", Checks.town("sr2d1;pw9").keys(1), 0);
        CHECKS.due("bare behind the first day alone", Checks.town("sr2d1;pw8").keys(2), -1);
    }

    private static void keysAmongMany() {
        // each pond but the first needs its own pipe, one of two alike
        PondRoofs x = Checks.town("sd1;pw99c99n0;pw10;pw10;pw10;ia0b1;ia0b2;ia0b3;ia0b3;ia0b2;ia0b1");
        CHECKS.due("the least of eight", x.keys(1), 7);
        CHECKS.due("and kept", x.kept(1, 1), 7);
        CHECKS.due("all four", x.kept(1, 0), 4);
        // a later pipe alone does what the first two do together
        PondRoofs y = Checks.town("sd2;pw99c99n0;pw10;ia0b1m1;ia0b1m1;ia0b1m2");
        CHECKS.due("the fewest, not the least bits", y.keys(1), 4);
        CHECKS.due("and kept", y.kept(1, 1), 4);
        PondRoofs nine = Checks.town("sd9;pw99c99n0;pw10;" + times("im1", 9));
        CHECKS.due("all nine", nine.keys(1), 511);
        CHECKS.due("and kept", nine.kept(1, 1), 511);
        CHECKS.due("eight would not do", Checks.town("sd9;pw99c99n0;pw10;" + times("im1", 8)).keys(1), -1);
        // what is open now does not matter
        PondRoofs open = Checks.town("sd0;pw99c99n99;pw0n0;io1m9");
        CHECKS.due("closed all that time", open.keys(9), 0);
        CHECKS.due("it is open still", open.count(15), 1);
    }

    private static void kept() {
        PondRoofs none = new PondRoofs();
        for (int n = 1; n <= 9; n++) {
            CHECKS.due("kept(" + n + ", 0) without a town", none.kept(n, 0), -1);
            CHECKS.due("kept(" + n + ", 1) without a town", none.kept(n, 1), -1);
            PondRoofs x = Checks.town("sd1;pw" + (10 + n) + ";pw" + (9 + n) + ";pn0;pn99");
            CHECKS.due("kept(" + n + ", 0)", x.kept(n, 0), 2);
            CHECKS.due("kept(" + n + ", 1)", x.kept(n, 1), 0);
            CHECKS.due("a day less keeps one more", n == 1 ? 3 : x.kept(n - 1, 0), 3);
            int[] noWhats = {-1, 2, Integer.MAX_VALUE, Integer.MIN_VALUE};
            for (int what : noWhats) {
                CHECKS.due("kept(" + n + ", " + what + ")", x.kept(n, what), -1);
            }
        }
        CHECKS.due("none of seven", Checks.town("sd1;" + times("pw10", 7)).kept(1, 0), 0);
        CHECKS.due("all of seven", Checks.town("sd1;" + times("pw11", 7)).kept(1, 0), 7);
        // behind n days alone, though bare on one between
        PondRoofs between = Checks.town("sr2d1;pw8");
        CHECKS.due("bare on the first day", between.kept(1, 0), 0);
        CHECKS.due("not on the second", between.kept(2, 0), 1);
        // one of two can be kept: the set of the lowest bits of those with one pipe
        PondRoofs one = Checks.town("sd1;pw12n10;pw10n10;pw10n10;ia0b1m1;ia0b2m1");
        CHECKS.due("two of three", one.kept(1, 0), 2);
        CHECKS.due("by the first pipe", one.kept(1, 1), 1);
        PondRoofs most = Checks.town("sd1;pw10;pw10;pw10;pw10;pw10;pw10;pw10n9;im9;ia0b6");
        CHECKS.due("one of seven without a pipe", most.kept(1, 0), 1);
        CHECKS.due("no pipe is the fewest", most.kept(1, 1), 0);
        PondRoofs fed = Checks.town("sd1;" + times("pw10", 6) + ";pw30n30;ia6b5m1");
        CHECKS.due("one of seven by a pipe", fed.kept(1, 0), 1);
        CHECKS.due("that pipe", fed.kept(1, 1), 1);
        PondRoofs dry = Checks.town("sd9;pw9;pw9;im9o1");
        CHECKS.due("none by any set", dry.kept(9, 0), 0);
        CHECKS.due("the set of none", dry.kept(9, 1), 0);
    }

    private static void cut() {
        PondRoofs none = new PondRoofs();
        for (int n = 1; n <= 9; n++) {
            CHECKS.due("cut(" + n + ") without a town", none.cut(n), -1);
            CHECKS.due("as much as they need", Checks.town("sr1d3;pw" + (10 + 2 * n)).cut(n), -1);
            CHECKS.due("one less", Checks.town("sr1d3;pw" + (9 + 2 * n)).cut(n), 1);
            CHECKS.due("one more", Checks.town("sr1d3;pw" + (11 + 2 * n)).cut(n), -1);
            CHECKS.due("one less, whatever its bed", Checks.town("sr1d3;pb9w" + (9 + 2 * n)).cut(n), 1);
            CHECKS.due("with a leak", Checks.town("sr1d3;pe2w" + (9 + 4 * n)).cut(n), 1);
            CHECKS.due("with a leak", Checks.town("sr1d3;pe2w" + (10 + 4 * n)).cut(n), -1);
            String pipe = "sr1d3;pw99c99n0;pe6w" + (10 + 8 * n - 5 * n) + ";im4;im1o1";
            CHECKS.due("all that pipes may bring", Checks.town(pipe).cut(n), -1);
            String less = "sr1d3;pw99c99n0;pe6w" + (9 + 8 * n - 5 * n) + ";im4;im1o1";
            CHECKS.due("one less than that", Checks.town(less).cut(n), 2);
        }
        // within the set a pipe brings nothing, and of sets with as many ponds the least is told
        PondRoofs both = Checks.town("sd1;pw99c99n0;pw10;pw10;ia1b2m9");
        CHECKS.due("two, joined with each other alone", both.cut(1), 6);
        PondRoofs all = Checks.town("sd1;pw10;pw10;pw10;im1;ia1b2m1;ia2b0m1");
        CHECKS.due("all three, none of fewer", all.cut(1), 7);
        PondRoofs one = Checks.town("sd1;pw10;pw10;pw10;im1");
        CHECKS.due("both of the first would do, the third alone is fewer", one.cut(1), 4);
        PondRoofs seven = Checks.town("sd1;" + times("pw10", 7));
        CHECKS.due("the least of seven", seven.cut(9), 1);
        PondRoofs last = Checks.town("sd1;" + times("pw99c99", 6) + ";pw10");
        CHECKS.due("the last of seven", last.cut(1), 64);
        String nine = ";" + times("ia6b0m1", 8);
        CHECKS.due("eight pipes to it", Checks.town("sd9;" + times("pw99c99n0", 6) + ";pw10" + nine).cut(1), 64);
        CHECKS.due("nine pipes to it", Checks.town("sd9;" + times("pw99c99n0", 6) + ";pw10" + nine + ";ia5b6m1").cut(1), -1);
    }

    // ---- where joined waters come to rest

    private static void rest() {
        for (int bed = 0; bed <= 9; bed++) {
            CHECKS.due("one drop over bed " + bed, Checks.town("pw1b" + bed).rest(0), bed + 1);
            CHECKS.due("nothing to hold over bed " + bed, Checks.town("pw0b" + bed).rest(0), 0);
            // the water that just reaches the higher bed, one less, one more, two more
            if (bed > 1) {
                CHECKS.due("below", Checks.town("pw" + (bed - 1) + ";pw0b" + bed + ";io1").rest(0), bed - 1);
                CHECKS.due("up to it", Checks.town("pw" + bed + ";pw0b" + bed + ";io1").rest(1), bed);
                CHECKS.due("one more", Checks.town("pw" + (bed + 1) + ";pw0b" + bed + ";io1").rest(1), bed + 1);
                CHECKS.due("two more", Checks.town("pw" + (bed + 2) + ";pw0b" + bed + ";io1").rest(1), bed + 1);
                CHECKS.due("three more", Checks.town("pw" + (bed + 3) + ";pw0b" + bed + ";io1").rest(1), bed + 2);
            }
        }
        CHECKS.due("the highest", Checks.town("pw99c99b9").rest(0), 108);
        CHECKS.due("capacity does not matter", Checks.town("pw1c1;pw99c99;io1").rest(0), 50);
        CHECKS.due("a closed pipe joins none", Checks.town("pw10;pw30;i").rest(0), 10);
        CHECKS.due("seven", Checks.town("pw7;pw0;pw0;pw0;pw0;pw0;pw0;io1;ib2o1;ib3o1;ib4o1;ib5o1;ib6o1").rest(6), 1);
        CHECKS.due("seven and one", Checks.town("pw8;pw0;pw0;pw0;pw0;pw0;pw0;io1;ib2o1;ib3o1;ib4o1;ib5o1;ib6o1").rest(6), 2);
    }

    private static void joinedAndShares() {
        PondRoofs none = new PondRoofs();
        CHECKS.due("shares without a town", none.shares(), -1);
        for (int ponds = 1; ponds <= 7; ponds++) {
            StringBuilder text = new StringBuilder(times("p", ponds));
            for (int i = ponds - 1; i > 0; i--) {
                text.append(";ia").append(i).append("b").append(i - 1);
            }
            PondRoofs x = Checks.town(text.toString());
            for (int open = 0; open < ponds; open++) {
                CHECKS.due(open + " open of a chain of " + ponds, x.shares(), ponds - open);
                int first = ponds - 1 - open;
                CHECKS.due("joined with the last", x.joined(ponds - 1), (1 << ponds) - (1 << first));
                CHECKS.due("the first", x.joined(0), first == 0 ? (1 << ponds) - 1 : 1);
                x.key(open, true);
            }
        }
        PondRoofs ring = Checks.town("p;p;p;io1;ia1b2o1;ia2b0o1");
        CHECKS.due("a ring", ring.shares(), 1);
        ring.key(0, false);
        CHECKS.due("a ring cut once", ring.shares(), 1);
        ring.key(1, false);
        CHECKS.due("a ring cut twice", ring.shares(), 2);
        CHECKS.due("joined with itself alone", ring.joined(1), 2);
    }

    private static void apart() {
        CHECKS.due("apart without a town", new PondRoofs().apart(), -1);
        CHECKS.due("no pike", Checks.town("pf9;pf9;i").apart(), 1);
        CHECKS.due("no carp", Checks.town("pg9;pg9;i").apart(), 1);
        CHECKS.due("a pike and a carp", Checks.town("pg1;pf1;i").apart(), 0);
        CHECKS.due("the other way", Checks.town("pf1;pg1;i").apart(), 0);
        CHECKS.due("a pike with its own carp", Checks.town("pf1g1;p;i").apart(), 1);
        CHECKS.due("and in a later pond", Checks.town("p;pf1g1;p;i;ia1b2").apart(), 3);
        CHECKS.due("and in the last of seven", Checks.town("p;p;p;p;p;p;pf1g1;ib6").apart(), 1);
        CHECKS.due("that meets a pike", Checks.town("pf1g1;pg1;i").apart(), 0);
        CHECKS.due("open now does not matter", Checks.town("pg1;pf1;io1").apart(), 0);
        CHECKS.due("no pipe", Checks.town("pg1;pf1").apart(), 0);
        CHECKS.due("all nine", Checks.town("pg1;p;" + times("i", 9)).apart(), 511);
        CHECKS.due("none of nine", Checks.town("pg1;pf1;" + times("i", 9)).apart(), 0);
        CHECKS.due("by a third pond", Checks.town("pg1;p;pf1;i;ia1b2").apart(), 1);
        CHECKS.due("the most, not the least bits", Checks.town("pg1;p;pf1;i;ia1b2;ia1b2").apart(), 6);
        CHECKS.due("the first and the last of seven", Checks.town("pg1;p;p;p;p;p;pf1;ib6;ib5;ia5b6").apart(), 2);
        CHECKS.due("the last and the first of seven", Checks.town("pf1;p;p;p;p;p;pg1;ib6;ib5;ia5b6").apart(), 2);
        PondRoofs x = Checks.town("p;pf1;i");
        CHECKS.due("before a pike comes", x.apart(), 1);
        x.stock(0, 0);
        CHECKS.due("behind", x.apart(), 0);
    }

    // ---- what was measured

    private static void measured() {
        PondRoofs x = Checks.town("p;p");
        for (int n = 0; n < 10; n++) {
            int[] wrong = {-10, 10, Integer.MAX_VALUE, Integer.MIN_VALUE};
            for (int gain : wrong) {
                CHECKS.due("measured(0, " + gain + ")", x.measured(0, gain), -1);
            }
            CHECKS.due("so far", x.count(16), n);
            CHECKS.due("measured", x.measured(n % 2, n % 2 == 0 ? -9 : 9), n + 1);
        }
        for (int gain = -10; gain <= 10; gain++) {
            CHECKS.due("an eleventh", x.measured(0, gain), -1);
        }
        CHECKS.due("ten", x.count(16), 10);
        CHECKS.due("an image", x.image(), 0);
        CHECKS.due("a day", x.days(1), 1);
        CHECKS.due("back", x.back(), 0);
        CHECKS.due("what was measured stays", x.count(16), 10);
        CHECKS.due("from 0 to 1, nine", x.secret(0), 1019);
        CHECKS.due("another town", Checks.text(x, 0, "p;p"), 2);
        CHECKS.due("none is left", x.count(16), 0);
        CHECKS.due("the first again", x.measured(0, 9), 1);
    }

    private static void secrets() {
        PondRoofs none = new PondRoofs();
        for (int i = -2; i <= 1; i++) {
            CHECKS.due("secret(" + i + ") without a town", none.secret(i), -1);
        }
        for (int ponds = 1; ponds <= 7; ponds++) {
            PondRoofs x = Checks.town(times("p", ponds));
            int ways = 1 + 9 * ponds * (ponds - 1);
            CHECKS.due("how many of " + ponds, x.secret(-1), ways);
            CHECKS.due("the first", x.secret(0), 0);
            int last = ponds == 1 ? 0 : 1000 + 100 * (ponds - 1) + 10 * (ponds - 2) + 9;
            CHECKS.due("the last", x.secret(ways - 1), last);
            CHECKS.due("no further one", x.secret(ways), -1);
            CHECKS.due("secret(-2)", x.secret(-2), -1);
            for (int far : FAR) {
                CHECKS.due("secret(" + far + ")", x.secret(far), -1);
            }
        }
        for (int gain = -9; gain <= 9; gain++) {
            PondRoofs x = Checks.town("p;p;p");
            x.measured(1, gain);
            CHECKS.due("how many by " + gain, x.secret(-1), gain == 0 ? 19 : 2);
            int first = gain == 0 ? 0 : gain < 0 ? 1100 - gain : 1010 + gain;
            int second = gain == 0 ? 1021 : gain < 0 ? 1120 - gain : 1210 + gain;
            CHECKS.due("the first by " + gain, x.secret(0), first);
            CHECKS.due("the second by " + gain, x.secret(1), second);
            CHECKS.due("no further one by " + gain, x.secret(gain == 0 ? 19 : 2), -1);
            x.measured(1, gain == 9 ? 8 : gain + 1);
            CHECKS.due("nothing fits both", x.secret(-1), 0);
            CHECKS.due("nothing fits both", x.secret(0), -1);
            CHECKS.due("nothing fits both", x.measure(), -1);
        }
        PondRoofs alone = Checks.town("p");
        alone.measured(0, 0);
        CHECKS.due("none alone", alone.secret(-1), 1);
        alone.measured(0, 1);
        CHECKS.due("nothing fits", alone.secret(-1), 0);
    }

    private static void measure() {
        CHECKS.due("measure without a town", new PondRoofs().measure(), -1);
        for (int ponds = 1; ponds <= 7; ponds++) {
            CHECKS.due("of several the lowest", Checks.town(times("p", ponds)).measure(), 0);
        }
        for (int known = 0; known < 3; known++) {
            PondRoofs x = Checks.town("p;p;p;p");
            x.measured(known, 0);
            CHECKS.due("not the one that is known", x.measure(), known == 0 ? 1 : 0);
        }
        PondRoofs nines = Checks.town("p;p;p;p");
        nines.measured(0, 0);
        nines.measured(2, 9);
        for (int time = 0; time < 3; time++) {
            CHECKS.due("1 or 3, asked again", nines.measure(), 1);
        }
        PondRoofs x = Checks.town("p;p;p;p");
        x.measured(3, 4);
        CHECKS.due("0, 1 or 2: each leaves two at worst", x.measure(), 0);
        x.measured(0, 0);
        CHECKS.due("1 or 2", x.measure(), 1);
        x.measured(1, -4);
        CHECKS.due("all is known: the lowest", x.measure(), 0);
        x.measured(0, 4);
        CHECKS.due("nothing fits", x.measure(), -1);
    }

    // ---- walls and feuds

    private static void walls() {
        CHECKS.due("walls without a town", new PondRoofs().walls(), -1);
        for (int wall = 0; wall <= 58; wall += 29) {
            for (int apart = wall; apart <= wall + 1; apart++) {
                String high = "pw" + apart + "k" + wall;
                int gives = apart > wall ? 1 : 0;
                CHECKS.due(high, Checks.town(high + ";pw0k0").walls(), gives);
                CHECKS.due("the other is higher", Checks.town("pw0k" + wall + ";pk0w" + apart).walls(), gives);
            }
        }
        CHECKS.due("the most a wall bears", Checks.town("pw99c99k99;pw0k0").walls(), 0);
        CHECKS.due("one less", Checks.town("pw99c99k98;pw0k0").walls(), 1);
        CHECKS.due("beds do not matter", Checks.town("pw9b9k0;pw9").walls(), 0);
        CHECKS.due("one pond alone", Checks.town("pw60k0").walls(), 0);
        CHECKS.due("all but the last of seven", Checks.town("pw9k0;pw8k0;pw9k0;pw8k0;pw9k0;pw8k0;pw9k0").walls(), 63);
    }

    private static void feuds() {
        // 40 and 10, a third of 40 whose pipe is open; 9 a day may run through each
        PondRoofs x = Checks.town("sd0;pw40;pw10;pw40;im9;ia2b1m9;ia0b1m1o1");
        for (int choice = 0; choice < 4; choice++) {
            int a = choice >> 1;
            int b = choice & 1;
            int gap = gapOfOneDay(a, b);
            CHECKS.due("feud " + a + " " + b, x.feud(0, 1, 0, 1, 1, a, b), gap);
            CHECKS.due("the other way", x.feud(1, 0, 0, 1, 1, a, b), -gap);
            CHECKS.due("each with the other pipe", x.feud(0, 1, 1, 0, 1, b, a), gap);
            CHECKS.due("one pipe: open if both would", x.feud(0, 1, 0, 0, 1, a, b), gapOfOneDay(a & b, 0));
        }
        CHECKS.due("nine days", x.feud(0, 1, 0, 1, 9, 0, 0), 30 - 2 * 9);
        CHECKS.due("the third as it is not", x.feud(0, 1, 2, 1, 1, 0, 0), 30);
        CHECKS.due("as the second pipe, too", x.feud(0, 1, 0, 2, 1, 0, 0), 30);
        CHECKS.due("the third as it is", x.feud(0, 1, 0, 2, 1, 0, 1), 28);
        CHECKS.due("alone, closed", x.feud(0, 1, 2, 2, 1, 0, 1), 30);
        CHECKS.due("alone, closed", x.feud(0, 1, 2, 2, 1, 1, 0), 30);
        CHECKS.due("alone, open", x.feud(0, 1, 2, 2, 1, 1, 1), 28);
        CHECKS.due("the keys stay", x.count(15), 4);
    }

    /** Pipe by pipe: 40 and 10 by 9, 40 and what is then by 9, then 1. */
    private static int gapOfOneDay(int first, int second) {
        int[] water = {40, 10, 40};
        int one = first == 1 ? 9 : 0;
        water[0] -= one;
        water[1] += one;
        int two = second == 1 ? Math.min(9, (water[2] - water[1]) / 2) : 0;
        water[2] -= two;
        water[1] += two;
        int three = Math.min(1, (water[0] - water[1]) / 2);
        return water[0] - three - water[1] - three;
    }

    private static void feudsRefused() {
        PondRoofs x = Checks.town("p;p;p;i;i");
        int[] right = {0, 2, 0, 1, 1, 1, 1};
        int[][] wrong = {{-1, 3}, {-1, 3}, {-1, 2}, {-1, 2}, {0, 10}, {-1, 2}, {-1, 2}};
        int[][] bounds = {{0, 1}, {1, 2}, {0, 1}, {0, 1}, {1, 9}, {0, 1}, {0, 1}};
        for (int place = 0; place < 7; place++) {
            for (int side = 0; side < 2; side++) {
                int[] w = right.clone();
                w[place] = bounds[place][side];
                CHECKS.due("feud at bound " + place, feud(x, w) != GONE, true);
                int[] values = {wrong[place][side], FAR[side]};
                for (int value : values) {
                    w[place] = value;
                    CHECKS.due("feud with " + value + " at " + place, feud(x, w), GONE);
                    if (place < 5) {
                        CHECKS.due("rests with it", x.rests(w[0], w[1], w[2], w[3], w[4], -1), -1);
                    }
                }
            }
        }
        for (int pond = 0; pond < 3; pond++) {
            CHECKS.due("one pond alone", x.feud(pond, pond, 0, 1, 1, 0, 0), GONE);
            CHECKS.due("one pond alone", x.rests(pond, pond, 0, 1, 1, -1), -1);
        }
        CHECKS.due("feud without a town", feud(new PondRoofs(), right), GONE);
        CHECKS.due("rests without a town", new PondRoofs().rests(0, 2, 0, 1, 1, -1), -1);
        CHECKS.due("feud without a pipe", feud(Checks.town("p;p;p"), right), GONE);
    }

    private static int feud(PondRoofs x, int[] w) {
        return x.feud(w[0], w[1], w[2], w[3], w[4], w[5], w[6]);
    }

    private static void restsAre(PondRoofs x, int one, int other, int... want) {
        CHECKS.due("how many rests", x.rests(one, other, 0, 1, 1, -1), want.length);
        for (int i = 0; i < want.length; i++) {
            CHECKS.due("rest " + i, x.rests(one, other, 0, 1, 1, i), want[i]);
        }
        int[] wrong = {-2, want.length, 4, Integer.MAX_VALUE, Integer.MIN_VALUE};
        for (int i : wrong) {
            CHECKS.due("no rest " + i, x.rests(one, other, 0, 1, 1, i), -1);
        }
    }

    private static void rests() {
        restsAre(Checks.town("sd0;p;p;i;i"), 0, 1, 0, 1, 10, 11);
        // a third pond with more: the first would be fed by its pipe, the second by its own
        restsAre(Checks.town("sd0;pw10;pw10;pw60;ia2b0;ia2b1"), 0, 1, 11);
        restsAre(Checks.town("sd0;pw10;pw10;pw60;ia2b1;ia2b0"), 0, 1, 0);
        // the first pipe is nothing to either: both its sides rest
        restsAre(Checks.town("sd0;pw10;pw10;pw60;i;ia2b1"), 0, 1, 1, 11);
        restsAre(Checks.town("sd0;pw10;pw10;pw60;ia2b0;ih99"), 0, 1, 10, 11);
        restsAre(Checks.town("sd0;pw10;pw10;pw60;ia2b0;i"), 0, 1, 11);
        // gaps -1, 1, 0, -1: whatever is chosen, one of them would have it otherwise
        restsAre(Checks.town("sd0;pw6;pw9;pw0;ia2b0m5;ia2b1m9;ia0b1m9o1"), 0, 1);
        PondRoofs none = Checks.town("sd0;pw20;pw0;im9;im9");
        restsAre(none, 0, 1, 1);
        Checks.text(none, 1, "y:0");
        none.law(0);
        restsAre(none, 0, 1, 0, 1, 10, 11);
        PondRoofs seeks = Checks.town("sd0;pw0c9;pw0c9;pw60;pw0;ia2b0m2;ia2b1m3");
        restsAre(seeks, 0, 1, 11);
        restsAre(seeks, 1, 0, 0);
    }

    // ---- light, rents, trends

    private static void reads() {
        PondRoofs none = new PondRoofs();
        PondRoofs x = Checks.town("sd1;pw25;pw26;pw0l0;pw85c99;pw86c99");
        int[] days = {0, 1, 59, 60};
        int[] want = {5, 7, 7, 15};
        for (int i = 0; i < days.length; i++) {
            CHECKS.due("reads(" + days[i] + ")", x.reads(days[i]), want[i]);
            CHECKS.due("reads(" + days[i] + ") without a town", none.reads(days[i]), -1);
        }
        int[] wrong = {-1, 61, Integer.MAX_VALUE, Integer.MIN_VALUE};
        for (int n : wrong) {
            CHECKS.due("reads(" + n + ")", x.reads(n), -1);
        }
        for (int light = 0; light <= 99; light += 33) {
            for (int water = Math.max(0, light - 1); water <= Math.min(99, light + 1); water++) {
                PondRoofs y = Checks.town("pl30;pc99w" + water + "l" + light);
                CHECKS.due(water + " by light " + light, y.reads(0), water <= light ? 3 : 1);
                CHECKS.due("the darkest", y.darkest(), water > light ? 1 : -1);
            }
        }
    }

    private static void darkest() {
        CHECKS.due("darkest without a town", new PondRoofs().darkest(), -1);
        CHECKS.due("none above", Checks.town("pw25;pw24;pw0l0").darkest(), -1);
        CHECKS.due("none above, whatever its bed", Checks.town("pw25b9").darkest(), -1);
        CHECKS.due("one above by one", Checks.town("pw25;pw26;pw0l0").darkest(), 1);
        CHECKS.due("of several the lowest", Checks.town("pw25;pw27;pw2l0;pw26").darkest(), 1);
        CHECKS.due("one more", Checks.town("pw25;pw27;pw3l0;pw26").darkest(), 2);
        CHECKS.due("the last of seven", Checks.town(times("pw26", 6) + ";pw27").darkest(), 6);
        CHECKS.due("the first of seven", Checks.town(times("pw26", 7)).darkest(), 0);
    }

    private static void rent() {
        for (int pipes = 0; pipes <= 9; pipes++) {
            String text = "p;pw10;pw9" + (pipes == 0 ? "" : ";" + times("ia2b1", pipes));
            PondRoofs x = Checks.town(text);
            CHECKS.due("without a pipe", x.rent(0), 30);
            CHECKS.due("as much as its need, " + pipes, x.rent(1), 10 + 5 * pipes);
            CHECKS.due("one less, " + pipes, x.rent(2), 9 + 5 * pipes - 10);
        }
        CHECKS.due("the least", Checks.town("pw0").rent(0), -10);
        CHECKS.due("no need", Checks.town("pw0n0").rent(0), 0);
        CHECKS.due("open or closed", Checks.town("p;p;io1;i").rent(0), 40);
    }

    private static void trend() {
        CHECKS.due("all that it has", Checks.town("sd9;pw9").trend(0), -9);
        CHECKS.due("no more than it has", Checks.town("sd9;pw8").trend(0), -8);
        CHECKS.due("nothing", Checks.town("sd9;pw0").trend(0), 0);
        CHECKS.due("up to its capacity", Checks.town("sr9d0;pw52").trend(0), 8);
        CHECKS.due("all the rain", Checks.town("sr9d0;pw51").trend(0), 9);
        CHECKS.due("full", Checks.town("sr9d0;pw60").trend(0), 0);
        CHECKS.due("by an open pipe", Checks.town("sd0;pw60;pw0;im9o1").trend(1), 9);
        CHECKS.due("by a closed one", Checks.town("sd0;pw60;pw0;im9").trend(1), 0);
    }

    private static void largest() {
        CHECKS.due("largest without a town", new PondRoofs().largest(), -1);
        CHECKS.due("no pipe", Checks.town("p").largest(), -1);
        CHECKS.due("none open", Checks.town("pw60;pw0;im9").largest(), -1);
        CHECKS.due("alike", Checks.town("p;p;io1").largest(), -1);
        CHECKS.due("apart by one", Checks.town("pw31;p;io1").largest(), -1);
        CHECKS.due("apart by two", Checks.town("pw32;p;io1").largest(), 0);
        CHECKS.due("of several the lowest", Checks.town("pw60;p;im1o1;im2o1;im2o1").largest(), 1);
        CHECKS.due("a closed one does not count", Checks.town("pw60;p;im1o1;im9;im2o1").largest(), 2);
        CHECKS.due("the last of nine", Checks.town("pw60;p;" + times("im1o1", 8) + ";im2o1").largest(), 8);
        CHECKS.due("the first of nine", Checks.town("pw60;p;" + times("im1o1", 9)).largest(), 0);
        CHECKS.due("the other one is full", Checks.town("pw60;pw9c9;io1").largest(), -1);
    }

    private static void eaten() {
        PondRoofs none = new PondRoofs();
        PondRoofs x = Checks.town("sd1m9;pw60f9;pw1f5;pw59f7;pw8f3g1");
        int[] days = {1, 2, 59, 60};
        for (int n : days) {
            CHECKS.due("eaten(" + n + ")", x.eaten(n), 24 - carpBehind(n));
            CHECKS.due("eaten(" + n + ") without a town", none.eaten(n), GONE);
        }
        int[] wrong = {0, -1, 61, Integer.MAX_VALUE, Integer.MIN_VALUE};
        for (int n : wrong) {
            CHECKS.due("eaten(" + n + ")", x.eaten(n), GONE);
        }
        CHECKS.due("they are there still", x.count(8), 24);
        CHECKS.due("none", Checks.town("sd0;pw1f3").eaten(60), 0);
        CHECKS.due("bred", Checks.town("sd0;pw30f99;pf4").eaten(1), -1);
    }

    private static int carpBehind(int n) {
        PondRoofs y = Checks.town("sd1m9;pw60f9;pw1f5;pw59f7;pw8f3g1");
        y.days(n);
        return y.count(8);
    }
}
