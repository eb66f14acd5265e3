/** Promises 6 to 13 and 45: what a town is, what flows by which law, what is done by hand, counts. */
public final class TownTest {
    private static final Checks CHECKS = new Checks();

    public static void main(String[] args) {
        sky();
        ponds();
        pipes();
        flowsWithoutLaw();
        flowsByLaw();
        laws();
        odds();
        keys();
        pours();
        stocks();
        counts();
        CHECKS.finish();
    }

    private static void sky() {
        PondRoofs x = Checks.town("p");
        int[] untold = {0, 1, 5};
        PondRoofs y = Checks.town("p;s m7 r2 d3");
        int[] told = {2, 3, 7};
        for (int what = 0; what < 3; what++) {
            CHECKS.due("sky(" + what + ") untold", x.sky(what), untold[what]);
            CHECKS.due("sky(" + what + ")", y.sky(what), told[what]);
        }
        CHECKS.due("sky(3)", y.sky(3), -1);
        CHECKS.due("sky(-1)", y.sky(-1), -1);
        CHECKS.due("sky without a town", new PondRoofs().sky(0), -1);
    }

    private static void ponds() {
        PondRoofs x = Checks.town("p;pg1f2l3k4e5n6b7c9w8");
        int[] untold = {30, 60, 0, 10, 0, 50, 25, 0, 0, 30};
        int[] told = {8, 9, 7, 6, 5, 4, 3, 2, 1, 15};
        for (int what = 0; what < 10; what++) {
            CHECKS.due("pond(0, " + what + ")", x.pond(0, what), untold[what]);
            CHECKS.due("pond(1, " + what + ")", x.pond(1, what), told[what]);
        }
        CHECKS.refused(x, 2, 0);
        CHECKS.refused(x, -1, 0);
        CHECKS.refused(x, 0, 10);
        CHECKS.refused(x, 0, -1);
        CHECKS.refused(x, Integer.MAX_VALUE, Integer.MIN_VALUE);
        CHECKS.refused(new PondRoofs(), 0, 0);
    }

    private static void pipes() {
        PondRoofs x = Checks.town("i;p;p;p;io1h9m8b0a2");
        int[] untold = {0, 1, 3, 0, 0, 0};
        int[] told = {2, 0, 8, 9, 1, 0};
        for (int what = 0; what < 6; what++) {
            CHECKS.due("pipe(0, " + what + ")", x.pipe(0, what), untold[what]);
            CHECKS.due("pipe(1, " + what + ")", x.pipe(1, what), told[what]);
        }
        CHECKS.due("no such pipe", x.pipe(2, 0), -1);
        CHECKS.due("no such pipe", x.pipe(-1, 0), -1);
        CHECKS.due("no such what", x.pipe(0, 6), -1);
        CHECKS.due("no such what", x.pipe(0, -1), -1);
        CHECKS.due("no town", new PondRoofs().pipe(0, 0), -1);
    }

    private static void flow(String town, int want) {
        CHECKS.due("flow in " + town, Checks.town(town).pipe(0, 5), want);
    }

    private static void flowsWithoutLaw() {
        flow("pw30;pw10;i", 3);
        flow("pw30;pw10;im9", 9);
        flow("pw10;pw30;im9", 9);
        flow("pw30;pw15;im9", 7);
        flow("pw30;pw10;im9h25", 5);
        flow("pw30;pw10;im9h30", 0);
        flow("pw30;pw10;im9h99", 0);
        flow("pw30;pw10c12;im9", 2);
        flow("pw30;pw10c10;im9", 0);
        flow("pw10b9;pw18;im9", 0);
        flow("pw10b9;pw15;im9", 2);
        flow("pw10b5;pw15;im9", 0);
        flow("pw0b9;pw1;im9", 0);
    }

    /** Levels 42 and 11: d 31, m 9, w 40, h 7, l 10, t 0. */
    private static void flowBy(String law, int want) {
        PondRoofs x = Checks.town("sd0;pw10b1;pw40b2;ia1b0m9h7");
        CHECKS.due("the law " + law, Checks.text(x, 1, law), 0);
        x.law(0);
        CHECKS.due("flow by " + law, x.pipe(0, 5), want);
    }

    private static void flowsByLaw() {
        flowBy("y:d/4", 7);
        flowBy("y:d-30", 1);
        flowBy("y:m-4", 5);
        flowBy("y:w-35", 5);
        flowBy("y:h", 7);
        flowBy("y:l-2", 8);
        flowBy("y:t+3", 3);
        flowBy("y:0-5", 0);
        flowBy("y:9999", 9);
        flowBy("y:d>40?1;y:d>30?2;y:3", 2);
        flowBy("y:d>40?1;y:d<31?2;y:3", 3);
        flowBy("y:d>40?1;y:2;y:3", 2);
        flowBy("y:d=1?5", 0);
        flowBy("y:d>31?5", 0);
        flowBy("y:d<31?5", 0);
        flowBy("y:d=31?5", 5);
        flowBy("y:9999*9999/9999-95", 5);
        flowBy("y:[0-9999]*9999/9999+105", 5);
        flowBy("y:9999*100+9999*100-9999*100-95", 5);
        flowBy("y:0-9999*100-9999*100+9999*100+105", 5);
        flowBy("y:[0-7]/2+8", 5);
        flowBy("y:7/0+5", 5);
        flowBy("y:7/[d-d]+5", 5);
        flowBy("y:20-5-8", 7);
        flowBy("y:20-[5+8]", 7);
        flowBy("y:40/5/2", 4);
        flowBy("y:7/2*2", 6);
        flowBy("y:1+2*3", 7);
        flowBy("y:[1+1]*3", 6);
        flowBy("y:d=1&d=2|d=31?4;y:5", 4);
        flowBy("y:d=31|d=1&d=2?4;y:5", 4);
        flowBy("y:(d=31|d=1)&d=2?4;y:5", 5);
        flowBy("y:!d=31|d=31?4;y:5", 4);
        flowBy("y:!d=31&d=1?4;y:5", 5);
        flowBy("y:!(d=31&d=1)?4;y:5", 4);
        flowBy("y:!!d=31?4;y:5", 4);
        flowBy("y:d=30+1?4;y:5", 4);
        flowBy(" y : [ d - 1 ] = 30 ? 4 ; y : 5 ", 4);
        flowBy("y:d=1|d=31&1=1+0*[1+1*[1+1*[1+1*[1+1*[1+1*[1+1*1]]]]]]?4;y:5", 4);
        flowBy("y:d=1|d=31&(d=1|d=31&(d=1|d=31&(d=1|d=31&(d=1|d=31&(d=1|d=31&7=1+1*2*3)))))?4;y:5", 4);
        flowBy("y:d=1|d=31&(d=1|d=31&(d=1|d=31&(d=1|d=31&(d=1|d=31&(d=1|d=31&8=1+1*2*3)))))?4;y:5", 5);
        PondRoofs alike = Checks.town("pw10b5;pw15;im9");
        Checks.text(alike, 1, "y:9");
        alike.law(0);
        CHECKS.due("alike levels by a law", alike.pipe(0, 5), 0);
        PondRoofs day = Checks.town("pw60;pw0;im9");
        Checks.text(day, 1, "y:t");
        day.law(0);
        day.days(4);
        CHECKS.due("t is the day", day.pipe(0, 5), 4);
    }

    private static void laws() {
        PondRoofs x = Checks.town("pw30;pw10;im9");
        CHECKS.due("no such law", x.law(0), false);
        Checks.text(x, 1, "y:2");
        Checks.text(x, 1, "y:1");
        CHECKS.due("none holds at first", x.count(5), -1);
        CHECKS.due("law(1)", x.law(1), true);
        CHECKS.due("it holds", x.count(5), 1);
        CHECKS.due("flow", x.pipe(0, 5), 1);
        CHECKS.due("law(1) again", x.law(1), true);
        CHECKS.due("no such law", x.law(2), false);
        CHECKS.due("no such law", x.law(-2), false);
        CHECKS.due("it holds still", x.count(5), 1);
        CHECKS.due("law(0)", x.law(0), true);
        CHECKS.due("flow", x.pipe(0, 5), 2);
        CHECKS.due("law(NONE)", x.law(-1), true);
        CHECKS.due("flow", x.pipe(0, 5), 9);
        CHECKS.due("none holds", x.count(5), -1);
    }

    private static void odds() {
        PondRoofs x = new PondRoofs();
        CHECKS.due("storm as it is", x.odds(0, 20), false);
        CHECKS.due("storm 99", x.odds(0, 99), true);
        CHECKS.due("storm 100", x.odds(0, 100), false);
        CHECKS.due("storm -1", x.odds(0, -1), false);
        CHECKS.due("pike as it is", x.odds(1, 0), false);
        CHECKS.due("pike 99", x.odds(1, 99), true);
        CHECKS.due("pike 100", x.odds(1, 100), false);
        CHECKS.due("no such what", x.odds(2, 5), false);
        CHECKS.due("no such what", x.odds(-1, 5), false);
        CHECKS.due("storm", x.count(13), 99);
        CHECKS.due("pike", x.count(14), 99);
    }

    private static void keys() {
        PondRoofs x = Checks.town("p;p;i;io1");
        CHECKS.due("open at first", x.count(15), 2);
        CHECKS.due("open as it is", x.key(1, true), false);
        CHECKS.due("closed as it is", x.key(0, false), false);
        CHECKS.due("no such pipe", x.key(2, true), false);
        CHECKS.due("no such pipe", x.key(-1, false), false);
        CHECKS.due("no such pipe", x.key(32, false), false);
        CHECKS.due("no such pipe", x.key(33, false), false);
        CHECKS.due("no act yet", x.count(18), 0);
        CHECKS.due("opened", x.key(0, true), true);
        CHECKS.due("open", x.pipe(0, 4), 1);
        CHECKS.due("closed", x.key(1, false), true);
        CHECKS.due("bits", x.count(15), 1);
        CHECKS.due("acts", x.count(18), 2);
    }

    private static void pours() {
        PondRoofs x = Checks.town("pw50;pw55");
        CHECKS.due("pour(0, 9)", x.pour(0, 9), 59);
        CHECKS.due("no room for it all", x.pour(0, 2), -1);
        CHECKS.due("pour(0, 1)", x.pour(0, 1), 60);
        CHECKS.due("no room", x.pour(0, 1), -1);
        CHECKS.due("none", x.pour(1, 0), -1);
        CHECKS.due("less than none", x.pour(1, -1), -1);
        CHECKS.due("more than 9", Checks.town("pw0").pour(0, 10), -1);
        CHECKS.due("far more", x.pour(1, Integer.MAX_VALUE), -1);
        CHECKS.due("no such pond", x.pour(2, 1), -1);
        CHECKS.due("no such pond", x.pour(-1, 1), -1);
        CHECKS.due("water", x.pond(1, 0), 55);
        CHECKS.due("acts", x.count(18), 2);
    }

    private static void stocks() {
        PondRoofs x = Checks.town("pf85g7");
        CHECKS.due("9 carp", x.stock(0, 9), 94);
        CHECKS.due("6 carp too many", x.stock(0, 6), -1);
        CHECKS.due("5 carp", x.stock(0, 5), 99);
        CHECKS.due("1 carp too many", x.stock(0, 1), -1);
        CHECKS.due("a pike", x.stock(0, 0), 8);
        CHECKS.due("a pike", x.stock(0, 0), 9);
        CHECKS.due("a pike too many", x.stock(0, 0), -1);
        CHECKS.due("acts", x.count(18), 4);
        PondRoofs y = Checks.town("p");
        CHECKS.due("10 carp", y.stock(0, 10), -1);
        CHECKS.due("-1 carp", y.stock(0, -1), -1);
        CHECKS.due("no such pond", y.stock(1, 1), -1);
        CHECKS.due("no such pond", y.stock(-1, 0), -1);
        CHECKS.due("a carp", y.stock(0, 1), 1);
        CHECKS.due("carp", y.pond(0, 7), 1);
        CHECKS.due("pikes", y.pond(0, 8), 0);
    }

    private static void counts() {
        PondRoofs x = Checks.town("sr9d0;pw60f5g2n3;pw4c9n8f1;pw0n0g1;i;ia1b2o1;ia2b0o1");
        Checks.text(x, 1, "y:0");
        Checks.text(x, 1, "y:0");
        Checks.text(x, 2, "d1");
        Checks.tape(x, "abc");
        x.law(1);
        x.measured(0, 1);
        int[] counts = {3, 3, 2, 1, 3, 1, 0, 64, 6, 3, 0, 53, 65, 20, 0, 6, 1, 0, 0};
        for (int what = 0; what < counts.length; what++) {
            CHECKS.due("count(" + what + ")", x.count(what), counts[what]);
        }
        x.days(2);
        int[] behind = {3, 3, 2, 1, 3, 1, 2, 87, 1, 1, 31};
        for (int what = 0; what < behind.length; what++) {
            CHECKS.due("count(" + what + ") behind two days", x.count(what), behind[what]);
        }
        CHECKS.due("log", x.count(17), 2);
        CHECKS.due("acts", x.count(18), 2);
        CHECKS.due("count(19)", x.count(19), -1000000);
        CHECKS.due("count(-1)", x.count(-1), -1000000);
    }
}
