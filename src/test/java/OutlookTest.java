/** Promises 21 to 29 and 33 to 42: what would be, and what is asked of a town as it is. */
public final class OutlookTest {
    private static final Checks CHECKS = new Checks();
    private static final int GONE = -1000000;

    public static void main(String[] args) {
        ahead();
        dries();
        bare();
        keys();
        kept();
        cut();
        rest();
        joined();
        apart();
        walls();
        feud();
        rests();
        reads();
        darkest();
        rent();
        trend();
        shares();
        largest();
        eaten();
        CHECKS.finish();
    }

    private static void ahead() {
        PondRoofs x = Checks.town("sd1;pw99c99;pw3;pw30e2;ia0b2o1m1");
        CHECKS.due("ahead(0, 0)", x.ahead(0, 0), 99);
        CHECKS.due("ahead(0, 1)", x.ahead(0, 1), 97);
        CHECKS.due("ahead(2, 1)", x.ahead(2, 1), 28);
        CHECKS.due("ahead(2, 2)", x.ahead(2, 2), 26);
        CHECKS.due("ahead(1, 60)", x.ahead(1, 60), 0);
        CHECKS.due("ahead(1, 61)", x.ahead(1, 61), -1);
        CHECKS.due("ahead(1, -1)", x.ahead(1, -1), -1);
        CHECKS.due("no such pond", x.ahead(3, 0), -1);
        CHECKS.due("no such pond", x.ahead(-1, 0), -1);
        CHECKS.due("the day stays", x.count(6), 0);
        CHECKS.due("water stays", x.count(7), 132);
        CHECKS.due("log stays", x.count(17), 0);
    }

    private static void dries() {
        PondRoofs x = Checks.town("sd1;pw99c99;pw0;pw30e2;pw9e1");
        int[] want = {99, 0, 10, 5};
        for (int i = 0; i < 4; i++) {
            CHECKS.due("dries(" + i + ")", x.dries(i), want[i]);
        }
        CHECKS.due("no such pond", x.dries(4), -1);
        CHECKS.due("no such pond", x.dries(-1), -1);
        PondRoofs y = Checks.town("sd1;pw99c99;pw2;ia0b1o1m1");
        CHECKS.due("later by its inflow", y.dries(1), 99 / 2 + 1);
        PondRoofs z = Checks.town("sd1r1;pw1");
        CHECKS.due("never", z.dries(0), -1);
        PondRoofs u = Checks.town("sd0;pw1e1;pw99c99;ia1b0m1");
        CHECKS.due("tomorrow", u.dries(0), 1);
        CHECKS.due("never", u.dries(1), -1);
        PondRoofs v = Checks.town("sd1;pw99c99;pw1b0");
        v.pour(1, 1);
        v.days(1);
        CHECKS.due("a day sooner", v.dries(0), 98);
        CHECKS.due("a day sooner", v.dries(1), 1);
        PondRoofs hundred = Checks.town("sd1;pw99c99b9;pw98c99;im1o1");
        Checks.text(hundred, 1, "y:t=0?1");
        Checks.text(hundred, 1, "y:t<2?1");
        hundred.law(0);
        CHECKS.due("behind 99 days", hundred.dries(1), 99);
        hundred.law(1);
        CHECKS.due("behind 100 days", hundred.dries(1), -1);
        PondRoofs late = Checks.town("sd1;pw99c99b9;pw1c99b9;im1o1");
        CHECKS.due("the sum of both is 100 and 2 dry a day", late.dries(1), 50);
    }

    private static void bare() {
        PondRoofs x = Checks.town("pw9;pw10;pw0n0;pw1n2");
        CHECKS.due("bare()", x.bare(), 9);
        CHECKS.due("bare without a town", new PondRoofs().bare(), -1);
        x.pour(0, 1);
        CHECKS.due("bare()", x.bare(), 8);
    }

    private static void keys() {
        PondRoofs x = Checks.town("sd2;pw60n0;pw11n10;pw12n8;i;ia0b2;ia0b1o1");
        CHECKS.due("one of two that do", x.keys(1), 1);
        CHECKS.due("two days", x.keys(2), 1);
        CHECKS.due("three days need both", x.keys(3), 3);
        CHECKS.due("keys stay", x.count(15), 4);
        CHECKS.due("keys(0)", x.keys(0), -1);
        CHECKS.due("keys(10)", x.keys(10), -1);
        CHECKS.due("keys without a town", new PondRoofs().keys(1), -1);
        PondRoofs none = Checks.town("sd1;pw10n10");
        CHECKS.due("none can", none.keys(1), -1);
        PondRoofs all = Checks.town("sd1;pw19n10");
        CHECKS.due("no pipe needed", all.keys(9), 0);
        PondRoofs between = Checks.town("sd5r0;pw14n0;pw9n1e3;ia0b1m9;ia1b0m1");
        CHECKS.due("behind each of the days", between.keys(1), 0);
        CHECKS.due("behind each of the days", between.keys(2), -1);
    }

    private static void kept() {
        PondRoofs x = Checks.town("sd2;pw60n0;pw11n10;pw12n8;i;ia0b2;ia0b1o1");
        CHECKS.due("all", x.kept(3, 0), 3);
        CHECKS.due("by both", x.kept(3, 1), 3);
        CHECKS.due("all", x.kept(1, 0), 3);
        CHECKS.due("by one", x.kept(1, 1), 1);
        PondRoofs dry = Checks.town("sd9;pw9n1;pw8n1;pw30n1;im9;ia2b0m2");
        CHECKS.due("one of three", dry.kept(1, 0), 2);
        CHECKS.due("the set", dry.kept(1, 1), 2);
        CHECKS.due("none of them", dry.kept(9, 0), 0);
        CHECKS.due("the least set", dry.kept(9, 1), 0);
        CHECKS.due("kept(0, 0)", dry.kept(0, 0), -1);
        CHECKS.due("kept(10, 0)", dry.kept(10, 0), -1);
        CHECKS.due("no such what", dry.kept(1, 2), -1);
        CHECKS.due("no such what", dry.kept(1, -1), -1);
        CHECKS.due("kept without a town", new PondRoofs().kept(1, 0), -1);
    }

    private static void cut() {
        PondRoofs x = Checks.town("sd2r1;pw20n10e1;pw20n10e4;pw60n0;im2;ia1b2m1");
        CHECKS.due("1 day: 20 + 1 + 3 and 16", x.cut(1), -1);
        CHECKS.due("3 days of both: 40 + 6 + 3 and 47", x.cut(3), -1);
        CHECKS.due("4 days of both: 40 + 8 + 4 and 56", x.cut(4), 3);
        CHECKS.due("5 days of one: 20 + 5 + 15 and 40", x.cut(5), 3);
        CHECKS.due("6 days of one: 20 + 6 + 18 and 46", x.cut(6), 2);
        CHECKS.due("cut(0)", x.cut(0), -1);
        CHECKS.due("cut(10)", x.cut(10), -1);
        CHECKS.due("cut without a town", new PondRoofs().cut(1), -1);
        PondRoofs two = Checks.town("sd1;pw10n10;pw10n10;pw10n9;im3;im3");
        CHECKS.due("two together, not one", two.cut(1), 3);
        PondRoofs same = Checks.town("sd1;pw60n0;pw10n10;pw10n10");
        CHECKS.due("the least of two", same.cut(1), 2);
    }

    private static void rest() {
        PondRoofs x = Checks.town("pw30b0;pw10b5;pw0b9;pw20b9;io1;ia1b2o1");
        CHECKS.due("rest(0): 40 over beds 0, 5 and 9", x.rest(0), 18);
        CHECKS.due("rest(1)", x.rest(1), 18);
        CHECKS.due("rest(3)", x.rest(3), 29);
        CHECKS.due("no such pond", x.rest(4), -1);
        CHECKS.due("no such pond", x.rest(-1), -1);
        PondRoofs low = Checks.town("pw3;pw0b9;io1");
        CHECKS.due("the bed of the other lies higher", low.rest(1), 3);
        PondRoofs full = Checks.town("pw9c9;pw99c99;io1");
        CHECKS.due("capacity does not matter", full.rest(0), 54);
        PondRoofs dry = Checks.town("pw0b7");
        CHECKS.due("nothing to hold", dry.rest(0), 0);
        PondRoofs high = Checks.town("pw99c99b9;p;i");
        CHECKS.due("alone", high.rest(0), 108);
    }

    private static void joined() {
        PondRoofs x = Checks.town("p;p;p;p;p;ia4b3o1;ia3b0o1;ia1b2;ia1b0");
        int[] want = {25, 2, 4, 25, 25};
        for (int i = 0; i < 5; i++) {
            CHECKS.due("joined(" + i + ")", x.joined(i), want[i]);
        }
        CHECKS.due("no such pond", x.joined(5), -1);
        CHECKS.due("no such pond", x.joined(-1), -1);
        PondRoofs chain = Checks.town("p;p;p;p;p;p;p;ia5b6o1;ia4b5o1;ia3b4o1;ia2b3o1;ia1b2o1;ia0b1o1");
        CHECKS.due("a chain", chain.joined(0), 127);
        CHECKS.due("a chain", chain.joined(6), 127);
        CHECKS.due("one share", chain.shares(), 1);
    }

    private static void apart() {
        PondRoofs x = Checks.town("pg1;pf1;p;i;ia1b2;ia2b0");
        CHECKS.due("two of three, the least", x.apart(), 2);
        PondRoofs y = Checks.town("pg1f1;p;p;i;ia1b2;ia2b0");
        CHECKS.due("its own carp do not matter", y.apart(), 7);
        PondRoofs z = Checks.town("pg1f1;pg1f1;i");
        CHECKS.due("none", z.apart(), 0);
        PondRoofs u = Checks.town("pg1;pf1;p;i;i;ia0b2o1;ia1b2o1;ia1b2");
        CHECKS.due("the most, be they open now or not", u.apart(), 24);
        CHECKS.due("no pipes", Checks.town("pg1").apart(), 0);
        CHECKS.due("apart without a town", new PondRoofs().apart(), -1);
    }

    private static void walls() {
        PondRoofs x = Checks.town("pw60k50;pw10k49;pw60k49;pw10k0;pw10b9k0;pw9k0");
        CHECKS.due("walls()", x.walls(), 2 + 4 + 16);
        CHECKS.due("the last has no next one", Checks.town("pw60k0").walls(), 0);
        CHECKS.due("walls without a town", new PondRoofs().walls(), -1);
    }

    private static void feud() {
        PondRoofs x = Checks.town("sd0;pw30;pw10;pw20;im9o1;ia2b1m9");
        CHECKS.due("both closed", x.feud(0, 1, 0, 1, 1, 0, 0), 20);
        CHECKS.due("the first open", x.feud(0, 1, 0, 1, 1, 1, 0), 2);
        CHECKS.due("the second open", x.feud(0, 1, 0, 1, 1, 0, 1), 15);
        CHECKS.due("both open", x.feud(0, 1, 0, 1, 1, 1, 1), 2);
        CHECKS.due("the other way", x.feud(1, 0, 0, 1, 1, 0, 0), -20);
        CHECKS.due("others as they are", x.feud(0, 2, 1, 1, 1, 0, 0), 1);
        CHECKS.due("one pipe: both would", x.feud(0, 1, 0, 0, 1, 1, 1), 2);
        CHECKS.due("one pipe: one would", x.feud(0, 1, 0, 0, 1, 0, 1), 20);
        CHECKS.due("two days", x.feud(0, 1, 0, 1, 2, 1, 0), 0);
        CHECKS.due("keys stay", x.count(15), 1);
        int[][] wrong = {{0, 0, 0, 1, 1, 0, 0}, {3, 1, 0, 1, 1, 0, 0}, {0, -1, 0, 1, 1, 0, 0}, {0, 1, 2, 1, 1, 0, 0},
            {0, 1, 0, -1, 1, 0, 0}, {0, 1, 0, 1, 0, 0, 0}, {0, 1, 0, 1, 10, 0, 0}, {0, 1, 0, 1, 1, 2, 0}, {0, 1, 0, 1, 1, 0, -1}};
        for (int[] w : wrong) {
            CHECKS.due("feud " + java.util.Arrays.toString(w), x.feud(w[0], w[1], w[2], w[3], w[4], w[5], w[6]), GONE);
        }
        CHECKS.due("feud without a town", new PondRoofs().feud(0, 1, 0, 1, 1, 0, 0), GONE);
    }

    private static void rests() {
        PondRoofs x = Checks.town("sd0;pw30;pw10;pw20;im9o1;ia2b1m9");
        CHECKS.due("how many", x.rests(0, 1, 0, 1, 1, -1), 1);
        CHECKS.due("x 0, y 1", x.rests(0, 1, 0, 1, 1, 0), 1);
        CHECKS.due("no such one", x.rests(0, 1, 0, 1, 1, 1), -1);
        CHECKS.due("no such one", x.rests(0, 1, 0, 1, 1, -2), -1);
        PondRoofs same = Checks.town("sd0;pw10;pw10;im9;im9");
        CHECKS.due("all four", same.rests(0, 1, 0, 1, 1, -1), 4);
        int[] all = {0, 1, 10, 11, -1};
        for (int i = 0; i < all.length; i++) {
            CHECKS.due("the i-th", same.rests(0, 1, 0, 1, 1, i), all[i]);
        }
        PondRoofs one = Checks.town("sd0;pw30;pw10;im9");
        CHECKS.due("one pipe", one.rests(0, 1, 0, 0, 1, -1), 2);
        CHECKS.due("one pipe", one.rests(0, 1, 0, 0, 1, 0), 0);
        CHECKS.due("one pipe", one.rests(0, 1, 0, 0, 1, 1), 1);
        CHECKS.due("the other way", one.rests(1, 0, 0, 0, 1, -1), 2);
        CHECKS.due("the other way", one.rests(1, 0, 0, 0, 1, 1), 10);
        CHECKS.due("as for feud", x.rests(0, 0, 0, 1, 1, -1), -1);
        CHECKS.due("as for feud", x.rests(0, 1, 0, 2, 1, -1), -1);
        CHECKS.due("as for feud", x.rests(0, 1, 0, 1, 10, -1), -1);
    }

    private static void reads() {
        PondRoofs x = Checks.town("sd1;pw25;pw26;pw9l0;pw0l0");
        CHECKS.due("reads(0)", x.reads(0), 9);
        CHECKS.due("reads(1)", x.reads(1), 11);
        CHECKS.due("reads(8)", x.reads(8), 11);
        CHECKS.due("reads(9)", x.reads(9), 15);
        CHECKS.due("reads(60)", x.reads(60), 15);
        CHECKS.due("reads(61)", x.reads(61), -1);
        CHECKS.due("reads(-1)", x.reads(-1), -1);
        CHECKS.due("reads without a town", new PondRoofs().reads(0), -1);
    }

    private static void darkest() {
        CHECKS.due("of several the lowest", Checks.town("pw25;pw30;pw10l5").darkest(), 1);
        CHECKS.due("the most above", Checks.town("pw26;pw30;pw10l4").darkest(), 2);
        CHECKS.due("none above", Checks.town("pw25;pw0l0").darkest(), -1);
        CHECKS.due("darkest without a town", new PondRoofs().darkest(), -1);
    }

    private static void rent() {
        PondRoofs x = Checks.town("pw9;pw10;pw0;i;i;ia1b2o1");
        CHECKS.due("bare, two pipes", x.rent(0), 9);
        CHECKS.due("not bare, three pipes", x.rent(1), 25);
        CHECKS.due("below 0", x.rent(2), -5);
        CHECKS.due("no such pond", x.rent(3), GONE);
        CHECKS.due("no such pond", x.rent(-1), GONE);
    }

    private static void trend() {
        PondRoofs x = Checks.town("sd1r3;pw30;pw59;pw0e9;io1");
        CHECKS.due("trend(0)", x.trend(0), 5);
        CHECKS.due("trend(1)", x.trend(1), -1);
        CHECKS.due("trend(2)", x.trend(2), 0);
        CHECKS.due("no such pond", x.trend(3), GONE);
        CHECKS.due("no such pond", x.trend(-1), GONE);
        CHECKS.due("over stays", x.count(10), 0);
    }

    private static void shares() {
        CHECKS.due("all alone", Checks.town("p;p;p;i").shares(), 3);
        CHECKS.due("two groups", Checks.town("p;p;p;p;ia0b3o1;ia2b3o1;i").shares(), 2);
        CHECKS.due("shares without a town", new PondRoofs().shares(), -1);
    }

    private static void largest() {
        PondRoofs x = Checks.town("pw30;pw10;pw20;im2o1;ia1b2m4o1;ia2b0m4o1;im9");
        CHECKS.due("the lowest of those with most", x.largest(), 1);
        x.key(3, true);
        CHECKS.due("an open one with more", x.largest(), 3);
        CHECKS.due("nothing flows", Checks.town("pw9;pw9;io1;i").largest(), -1);
        CHECKS.due("none open", Checks.town("pw9;pw0;i").largest(), -1);
        CHECKS.due("largest without a town", new PondRoofs().largest(), -1);
        PondRoofs each = Checks.town("pw30;pw10;pw10;im9o1;ia1b2m9o1");
        CHECKS.due("each as it is now", each.largest(), 0);
        PondRoofs later = Checks.town("pw12;pw10;pw10;im1o1;ia1b2m9o1");
        CHECKS.due("not as it would be behind the first", later.largest(), 0);
    }

    private static void eaten() {
        PondRoofs x = Checks.town("sd0;pw30f9g2;pw30f8");
        CHECKS.due("eaten(1)", x.eaten(1), 9 - 6 + 8 - 10);
        CHECKS.due("more are bred", Checks.town("pf40").eaten(1), -10);
        CHECKS.due("all dry up", Checks.town("sd9;pw9f40").eaten(60), 40);
        CHECKS.due("eaten(0)", x.eaten(0), GONE);
        CHECKS.due("eaten(61)", x.eaten(61), GONE);
        CHECKS.due("eaten without a town", new PondRoofs().eaten(1), GONE);
        CHECKS.due("carp stay", x.count(8), 17);
    }
}
