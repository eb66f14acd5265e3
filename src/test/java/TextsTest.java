/** Promises 1 to 5 and 18: the tape, the faults of the three sorts of texts, what a text becomes. */
public final class TextsTest {
    private static final Checks CHECKS = new Checks();

    public static void main(String[] args) {
        newObject();
        feedAndEnd();
        townFaults();
        lawFaults();
        planFaults();
        texts();
        steps();
        CHECKS.finish();
    }

    private static void newObject() {
        PondRoofs x = new PondRoofs();
        int[] first = {0, 0, 0, 0, 0, -1, 0, 0, 0, 0, 0, 0, 0, 20, 0, 0, 0, 0, 0};
        for (int what = 0; what < first.length; what++) {
            CHECKS.due("count(" + what + ") of a new object", x.count(what), first[what]);
        }
        CHECKS.refused(x, 0, 0);
        CHECKS.due("back()", x.back(), -1);
        CHECKS.due("image()", x.image(), -1);
        CHECKS.due("law(0)", x.law(0), false);
        CHECKS.due("law(NONE)", x.law(-1), true);
    }

    private static void feedAndEnd() {
        PondRoofs x = new PondRoofs();
        CHECKS.due("feed of nothing", x.feed(0, 0, 0, 0, 0), 0);
        CHECKS.due("feed leaves out 0", x.feed(0x70003B00, 0x00700000, 0, 0, 0x0000003B), 4);
        CHECKS.due("fault: p;p;", x.fault(0), 4);
        CHECKS.due("end beyond", x.end(5), false);
        CHECKS.due("end below", x.end(-1), false);
        CHECKS.due("bytes", x.count(4), 4);
        CHECKS.due("end as it is", x.end(4), true);
        CHECKS.due("end(3)", x.end(3), true);
        CHECKS.due("fault: p;p", x.fault(0), -1);
        int full = 0x20202020;
        for (int i = 1; i <= 11; i++) {
            CHECKS.due("feed " + i, x.feed(full, full, full, full, full), 3 + 20 * i);
        }
        CHECKS.due("feed 17 more", x.feed(full, full, full, full, 0x20000000), 240);
        for (int shift = 0; shift < 32; shift += 8) {
            int one = 1 << shift;
            int high = 128 << shift;
            CHECKS.due("feed beyond 240", x.feed(one, 0, 0, 0, 0), -1);
            CHECKS.due("feed beyond 240", x.feed(0, high, 0, 0, 0), -1);
            CHECKS.due("feed beyond 240", x.feed(0, 0, one, 0, 0), -1);
            CHECKS.due("feed beyond 240", x.feed(0, 0, 0, high, 0), -1);
            CHECKS.due("feed beyond 240", x.feed(0, 0, 0, 0, one), -1);
        }
        CHECKS.due("feed of nothing more", x.feed(0, 0, 0, 0, 0), 240);
        CHECKS.due("bytes", x.count(4), 240);
        CHECKS.due("fault", x.fault(0), -1);
        CHECKS.due("feed of high bytes", x.end(0), true);
        CHECKS.due("feed of high bytes", x.feed(0xFFFFFFFF, 0x80000000, 0, 0, 0), 5);
        CHECKS.due("fault of high bytes", x.fault(0), 0);
    }

    private static void fault(int sort, String text, int want) {
        CHECKS.due("fault(" + sort + ") of '" + text + "'", Checks.fault(sort, text), want);
    }

    private static void townFaults() {
        String[] stand = {"p", " p ", "s;p", "p;s", "pw0c1b9n99e9k99l99f99g9", "p w 5 c 05", "sr9d9m9;p", "s r 0 d00 m09;p",
            "i;p;p", "p;p;ia1b0m9h99o1", "p;p;p;p;p;p;p;ia06b5", "pw60", "pw01c1", "p;p;i;i;i;i;i;i;i;i;i"};
        for (String text : stand) {
            fault(0, text, -1);
        }
        fault(0, "", 0);
        fault(0, "   ", 3);
        fault(0, ";p", 0);
        fault(0, "p;", 2);
        fault(0, "p; ", 3);
        fault(0, "p;;p", 2);
        fault(0, "s", 1);
        fault(0, "s r1 ; i", 8);
        fault(0, "q", 0);
        fault(0, "P", 0);
        fault(0, "pq", 1);
        fault(0, "pr1", 1);
        fault(0, "sw1;p", 1);
        fault(0, "p5", 1);
        fault(0, "pw", 2);
        fault(0, "pw ", 3);
        fault(0, "pw;", 2);
        fault(0, "pw1 2", 4);
        fault(0, "pww1", 2);
        fault(0, "pw1w2", 3);
        fault(0, "pw1c2w3", 5);
        fault(0, "pw100", 4);
        fault(0, "pb10", 3);
        fault(0, "pb9;pb10", 7);
        fault(0, "pb123", 4);
        fault(0, "pb001", 4);
        fault(0, "pc0", 2);
        fault(0, "pc00", 3);
        fault(0, "pc0 1", 2);
        fault(0, "pc01w2", 6);
        fault(0, "pw61", 4);
        fault(0, "pc29 ", 5);
        fault(0, "pc30 ", -1);
        fault(0, "pg10", 3);
        fault(0, "pe10", 3);
        fault(0, "sr10;p", 3);
        fault(0, "sd10;p", 3);
        fault(0, "sm10;p", 3);
        fault(0, "s;p;s", 4);
        fault(0, "p;i", 3);
        fault(0, "p;p;ia1", 7);
        fault(0, "p;p;ib0", 7);
        fault(0, "p;p;ia2b1", 9);
        fault(0, "p;p;ia7", 6);
        fault(0, "p;p;ib7", 6);
        fault(0, "p;p;ib07", 7);
        fault(0, "p;p;ia1b0", -1);
        fault(0, "p;p;im0", 6);
        fault(0, "p;p;im10", 7);
        fault(0, "p;p;im00", 7);
        fault(0, "p;p;io2", 6);
        fault(0, "p;p;io02", 7);
        fault(0, "p;p;io01", -1);
        fault(0, "p;p;ih100", 8);
        fault(0, "p;p;p;p;p;p;p;p", 14);
        fault(0, "i;i;i;i;i;i;i;i;i;i", 18);
        fault(0, "p\tw1", 1);
    }

    private static void lawFaults() {
        String[] stand = {"y:d", " y : d ", "y:1;y:2", "y:9999", "y:0001+0", "y:d=1?2", "y:!d=1?2", "y:(d=1)?2", "y:[d]=1?2",
            "y:[d]", "y:d+m-w*h/l*t", "y:!!!!!!d=1?2", "y:((((((d=1))))))?2", "y:[[[[[[d]]]]]]", "y:(!d=1|m<2&!(w>3))?[d-1]*2;y:3"};
        for (String text : stand) {
            fault(1, text, -1);
        }
        fault(1, "", 0);
        fault(1, "y", 1);
        fault(1, "y:", 2);
        fault(1, "x:d", 0);
        fault(1, "yd", 1);
        fault(1, "y:d;", 4);
        fault(1, "y:d;;", 4);
        fault(1, "y:y", 2);
        fault(1, "y:-1", 2);
        fault(1, "y:12345", 6);
        fault(1, "y:00000", 6);
        fault(1, "y:1 2", 4);
        fault(1, "y:d m", 4);
        fault(1, "y:d+", 4);
        fault(1, "y:d++", 4);
        fault(1, "y:d*-", 4);
        fault(1, "y:d?1", 3);
        fault(1, "y:d=1", 5);
        fault(1, "y:d=1;", 5);
        fault(1, "y:d=1=2", 5);
        fault(1, "y:d=1?", 6);
        fault(1, "y:d=1?m=2", 7);
        fault(1, "y:d=1?2?3", 7);
        fault(1, "y:d=1&2?3", 7);
        fault(1, "y:d&", 3);
        fault(1, "y:d=1||", 6);
        fault(1, "y:(d)", 4);
        fault(1, "y:(d=1", 6);
        fault(1, "y:(d=1)", 7);
        fault(1, "y:(d=1)+1", 7);
        fault(1, "y:(d=1)=1", 7);
        fault(1, "y:(d=1))", 7);
        fault(1, "y:(d=1]", 6);
        fault(1, "y:[d=1]", 4);
        fault(1, "y:[d", 4);
        fault(1, "y:[d)", 4);
        fault(1, "y:[]", 3);
        fault(1, "y:[(d=1)]", 3);
        fault(1, "y:!d", 4);
        fault(1, "y:!d?", 4);
        fault(1, "y:d=!m", 4);
        fault(1, "y:d=(m)", 4);
        fault(1, "y:d=1?!m=1", 6);
        fault(1, "y:!!!!!![d]=1?1", 8);
        fault(1, "y:((((((![d", 8);
        fault(1, "y:(((((([", 8);
        fault(1, "y:[[[[[[[", 8);
        fault(1, "y:[[[[[[d]]]]]]+[[[[[[d]]]]]]=1&!!!!!!d=1|((((((d=1))))))?1", -1);
        fault(1, "y:!!!d=1&!!!!!!!d=1?1", 15);
        fault(1, "y:d=1?[[[[[[d]]]]]]", -1);
        fault(1, "y:d=1?[[[[[[[d]]]]]]]", 12);
        fault(1, "y:!![[[[d]]]]=[[[[[d", 18);
    }

    private static void planFaults() {
        String[] stand = {"o0", "c9", "d0", "w00", " o 1 ; c 2;d 3 ;w 4 5 ", "w4 5",
            "o0;o0;o0;o0;o0;o0;o0;o0;o0;o0;o0;o0;o0;o0;o0;w11 "};
        for (String text : stand) {
            fault(2, text, -1);
        }
        fault(2, "", 0);
        fault(2, " ", 1);
        fault(2, "o", 1);
        fault(2, "x1", 0);
        fault(2, "o;", 1);
        fault(2, "o12", 2);
        fault(2, "w1", 2);
        fault(2, "w1;", 2);
        fault(2, "w 1 ", 4);
        fault(2, "w123", 3);
        fault(2, "d1;", 3);
        fault(2, "d1;;", 3);
        fault(2, "d1d1", 2);
        fault(2, "d1;d1;d1;d1;d1;d1;d1;d1;d1;d1;d1;d1;d1;d1;d1;d1 ;", 48);
        CHECKS.due("fault(3)", Checks.fault(3, "p"), -2);
        CHECKS.due("fault(-1)", Checks.fault(-1, "p"), -2);
    }

    private static void texts() {
        PondRoofs x = new PondRoofs();
        CHECKS.due("a fault", Checks.text(x, 0, "p;"), -1);
        CHECKS.due("the tape stays", x.count(4), 2);
        CHECKS.due("no such sort", x.text(3), -1);
        CHECKS.due("no such sort", x.text(-1), -1);
        CHECKS.due("a town", Checks.text(x, 0, "sr3;p;pw7;io1"), 2);
        CHECKS.due("the tape is empty", x.count(4), 0);
        for (int i = 0; i < 4; i++) {
            CHECKS.due("law " + i, Checks.text(x, 1, "y:" + i), i);
            CHECKS.due("plan " + i, Checks.text(x, 2, "d" + i), i);
        }
        CHECKS.due("a fifth law", Checks.text(x, 1, "y:d"), -1);
        CHECKS.due("a fifth law is no fault", x.fault(1), -1);
        CHECKS.due("a fifth plan", Checks.text(x, 2, "d1"), -1);
        CHECKS.due("a fifth plan stays on the tape", x.count(4), 2);
        CHECKS.due("laws", x.count(2), 4);
        CHECKS.due("plans", x.count(3), 4);
        x.law(3);
        x.odds(0, 33);
        x.odds(1, 44);
        x.days(3);
        x.measured(0, 1);
        x.image();
        x.key(0, false);
        CHECKS.due("another town", Checks.text(x, 0, "pw5f3g2"), 1);
        int[] counts = {1, 0, 4, 4, 0, 3, 0, 5, 3, 2, 0, -5, 55, 33, 44, 0, 0, 0, 0};
        for (int what = 0; what < counts.length; what++) {
            CHECKS.due("count(" + what + ") in another town", x.count(what), counts[what]);
        }
        CHECKS.due("no undo", x.undo(), -1);
        CHECKS.due("no image", x.back(), -1);
        CHECKS.due("no log", x.log(0, 0), -1);
        CHECKS.due("the sky is as untold", x.sky(0), 0);
        CHECKS.due("a town with a fault", Checks.text(x, 0, "p;p;p;q"), -1);
        CHECKS.due("the town stays", x.count(0), 1);
        CHECKS.due("its water stays", x.count(7), 5);
    }

    private static void steps() {
        PondRoofs x = new PondRoofs();
        Checks.text(x, 2, "o1;c2 ; d 3;w 4 5");
        int[][] want = {{0, 1, -1}, {1, 2, -1}, {2, 3, -1}, {3, 4, 5}};
        for (int i = 0; i < 4; i++) {
            for (int what = 0; what < 3; what++) {
                CHECKS.due("step(0, " + i + ", " + what + ")", x.step(0, i, what), want[i][what]);
            }
        }
        CHECKS.due("no such step", x.step(0, 4, 0), -1000000);
        CHECKS.due("no such step", x.step(0, -1, 0), -1000000);
        CHECKS.due("no such plan", x.step(1, 0, 0), -1000000);
        CHECKS.due("no such plan", x.step(-1, 0, 0), -1000000);
        CHECKS.due("no such what", x.step(0, 0, 3), -1000000);
        CHECKS.due("no such what", x.step(0, 0, -1), -1000000);
    }
}
