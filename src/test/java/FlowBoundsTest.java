/** Terms 1 and 2, promises 6 to 10: bounds of what is told of a town, of a law's numbers and of what flows, and both their sides. */
public final class FlowBoundsTest {
    private static final Checks CHECKS = new Checks();

    public static void main(String[] args) {
        skies();
        ponds();
        pipes();
        halfCut();
        heldByMost();
        heldByMouth();
        heldByRoom();
        heldByNought();
        lettersOfALaw();
        numbersHeld();
        heldBehindEachSign();
        cutTowardsNought();
        compared();
        firstClauseThatHolds();
        longestLaws();
        deepestLaws();
        lawsThatHold();
        odds();
        CHECKS.finish();
    }

    private static void skies() {
        PondRoofs x = Checks.town("sr1d2m3;p");
        int[] want = {-1, 1, 2, 3, -1};
        for (int what = -1; what <= 3; what++) {
            CHECKS.due("sky(" + what + ")", x.sky(what), want[what + 1]);
            CHECKS.due("sky(" + what + ") without a town", new PondRoofs().sky(what), -1);
        }
        CHECKS.due("sky of the greatest", x.sky(Integer.MAX_VALUE), -1);
        CHECKS.due("sky of the least", x.sky(Integer.MIN_VALUE), -1);
    }

    private static void ponds() {
        for (int ponds = 1; ponds <= 7; ponds++) {
            PondRoofs x = Checks.town("p;p;p;p;p;p;p".substring(0, 2 * ponds - 1));
            CHECKS.due("the first", x.pond(0, 0), 30);
            CHECKS.due("the last", x.pond(ponds - 1, 9), 30);
            CHECKS.refused(x, ponds, 0);
            CHECKS.refused(x, -1, 0);
            CHECKS.refused(x, 0, -1);
            CHECKS.refused(x, ponds - 1, 10);
        }
        int[] far = {Integer.MIN_VALUE, -1, 0, 9, Integer.MAX_VALUE};
        for (int pond : far) {
            for (int what : far) {
                CHECKS.refused(new PondRoofs(), pond, what);
            }
        }
        PondRoofs high = Checks.town("pw99c99b9");
        CHECKS.due("the highest level", high.pond(0, 9), 108);
        CHECKS.due("the lowest level", Checks.town("pw0").pond(0, 9), 0);
    }

    private static void pipes() {
        for (int pipes = 0; pipes <= 9; pipes++) {
            PondRoofs x = Checks.town("p;p;im9;im9;im9;im9;im9;im9;im9;im9;im9".substring(0, 3 + 4 * pipes));
            CHECKS.due("the last pipe", x.pipe(pipes - 1, 2), pipes == 0 ? -1 : 9);
            CHECKS.due("one behind it", x.pipe(pipes, 2), -1);
            CHECKS.due("pipe(-1, 0)", x.pipe(-1, 0), -1);
            CHECKS.due("pipe(0, -1)", x.pipe(0, -1), -1);
            CHECKS.due("pipe(0, 0)", x.pipe(0, 0), pipes == 0 ? -1 : 0);
            CHECKS.due("pipe(0, 5)", x.pipe(0, 5), pipes == 0 ? -1 : 0);
            CHECKS.due("pipe(0, 6)", x.pipe(0, 6), -1);
        }
        PondRoofs x = Checks.town("pw9;pw1;io0;io1");
        CHECKS.due("closed", x.pipe(0, 4), 0);
        CHECKS.due("open", x.pipe(1, 4), 1);
        CHECKS.due("what would flow through the closed one", x.pipe(0, 5), 3);
        CHECKS.due("what flows through the open one", x.pipe(1, 5), 3);
    }

    // ---- what flows

    private static void flow(String town, int want) {
        CHECKS.due("flow in " + town, Checks.town(town).pipe(0, 5), want);
    }

    private static void flowBy(String law, String town, int want) {
        PondRoofs x = Checks.town(town);
        CHECKS.due("the law " + law, Checks.text(x, 1, law), 0);
        CHECKS.due("it holds", x.law(0), true);
        CHECKS.due("flow by " + law + " in " + town, x.pipe(0, 5), want);
    }

    private static void halfCut() {
        for (int apart = 0; apart <= 19; apart++) {
            flow("pw" + (30 + apart) + ";p;im9", apart / 2);
            flow("p;pw" + (30 + apart) + ";im9", apart / 2);
            flow("pw" + (30 + apart) + ";p;ia1b0m9", apart / 2);
        }
        flow("pb1;p;im9", 0);
        flow("pb2;p;im9", 1);
        flow("pw30b9;pw38;im9", 0);
        flow("pw30b9;pw39;im9", 0);
        flow("pw30b9;pw40;im9", 0);
        flow("pw30b9;pw41;im9", 1);
        flow("pw30b9;pw37;im9", 1);
    }

    private static void heldByMost() {
        for (int most = 1; most <= 9; most++) {
            flow("pw" + (30 + 2 * most - 2) + ";p;im" + most, most - 1);
            flow("pw" + (30 + 2 * most) + ";p;im" + most, most);
            flow("pw" + (30 + 2 * most + 2) + ";p;im" + most, most);
            flowBy("y:m-1", "pw60;p;im" + most, most - 1);
            flowBy("y:m", "pw60;p;im" + most, most);
            flowBy("y:m+1", "pw60;p;im" + most, most);
            flowBy("y:1000*1000", "pw60;p;im" + most, most);
        }
    }

    private static void heldByMouth() {
        int[] mouths = {0, 55, 56, 57, 58, 59, 60, 61, 99};
        int[] flows = {4, 4, 4, 3, 2, 1, 0, 0, 0};
        for (int i = 0; i < mouths.length; i++) {
            flow("pw60;pw52;im9h" + mouths[i], flows[i]);
            flow("pw52;pw60b9;im9h" + mouths[i], Math.min(8, Math.max(0, 60 - mouths[i])));
        }
        flow("pw1b9;pw0;im9", 1);
        flow("pw0b9;pw0;im9", 0);
        flow("pw1b9;pw0;im9h1", 0);
        flowBy("y:9", "pw31;pw30;im9", 9);
        flowBy("y:9", "pw31;pw30;im9h23", 8);
        flowBy("y:9", "pw31;pw30;im9h31", 0);
    }

    private static void heldByRoom() {
        for (int room = 0; room <= 11; room++) {
            flow("pw60;pw30c" + (30 + room) + ";im9", Math.min(9, room));
            flow("pw30c" + (30 + room) + ";pw60;im9", Math.min(9, room));
            flowBy("y:9", "pw31;pw30c" + (30 + room) + ";im9", Math.min(9, room));
        }
        for (int room = 0; room <= 11; room++) {
            flow("pw60;pw30b5c" + (30 + room) + ";im9", Math.min(9, room));
        }
        // the higher one's own room does not count
        flow("pw60c60;pw30;im9", 9);
    }

    private static void heldByNought() {
        flowBy("y:0-1", "pw60;p;im9", 0);
        flowBy("y:0", "pw60;p;im9", 0);
        flowBy("y:1", "pw60;p;im9", 1);
        flowBy("y:0-1000*1000", "pw60;p;im9", 0);
        flowBy("y:9", "p;p;im9", 0);
        flowBy("y:9", "pb1;p;im9", 9);
        flowBy("y:9", "pb1;pw31;im9", 0);
    }

    // ---- laws

    /** Levels 42 and 11: d 31, m 9, w 40, h 7, l 10, t 0. */
    private static void holds(String condition, boolean want) {
        PondRoofs x = Checks.town("sd0;pw10b1;pw40b2;ia1b0m9h7");
        CHECKS.due("the law with " + condition, Checks.text(x, 1, "y:" + condition + "?1"), 0);
        x.law(0);
        CHECKS.due(condition, x.pipe(0, 5), want ? 1 : 0);
    }

    private static void is(String sum, String other) {
        holds(sum + "=" + other, true);
        holds(sum + "<" + other, false);
        holds(sum + ">" + other, false);
    }

    private static void isLess(String sum, String other) {
        holds(sum + "=" + other, false);
        holds(sum + "<" + other, true);
        holds(sum + ">" + other, false);
        holds(other + "<" + sum, false);
        holds(other + ">" + sum, true);
    }

    private static void lettersOfALaw() {
        is("d", "31");
        is("m", "9");
        is("w", "40");
        is("h", "7");
        is("l", "10");
        is("t", "0");
        // whichever end is the higher one: levels 12 and 43
        String[] towns = {"pw10b2;pw40b3;im8h7", "pw40b3;pw10b2;im8h7", "pw10b2;pw40b3;ia1b0m8h7"};
        for (String town : towns) {
            flowBy("y:d-25", town, 6);
            flowBy("y:w-35", town, 5);
            flowBy("y:l-6", town, 4);
            flowBy("y:m-5", town, 3);
            flowBy("y:h-5", town, 2);
        }
        // m is what the pipe takes, though there is less room or less above the mouth
        flowBy("y:m-5", "pw60;pw10c15;im8", 3);
        flowBy("y:m-5", "pw60;pw10;im8h55", 3);
        PondRoofs x = Checks.town("sd0;pw60;pw0;im9");
        Checks.text(x, 1, "y:t=9998?1;y:t=9999?2;y:t=10000?3");
        CHECKS.due("five digits are no number", x.count(4) > 0, true);
        CHECKS.due("text", Checks.text(x, 1, "y:t=9998?1;y:t=9999?2;y:t=9999+1?3"), 0);
        x.law(0);
        for (int i = 0; i < 166; i++) {
            x.days(60);
        }
        CHECKS.due("day", x.days(38), 9998);
        CHECKS.due("t the day ahead of the last", x.pipe(0, 5), 1);
        x.key(0, true);
        CHECKS.due("t goes on behind the last", x.ahead(1, 3), 1 + 2 + 3);
        CHECKS.due("the last day", x.days(1), 9999);
        CHECKS.due("t on the last day", x.pipe(0, 5), 2);
    }

    /** The greatest is 1000*1000; 999*1001 is one less. */
    private static void numbersHeld() {
        is("999*1001+1", "1000*1000");
        isLess("999*1001", "1000*1000");
        is("1000*1000+1", "1000*1000");
        is("1000*1000+9999", "1000*1000");
        is("999*1001+2", "1000*1000");
        is("999*1001", "1000*1000-1");
        is("1001*1000", "1000*1000");
        is("9999*9999", "1000*1000");
        is("1001*999", "1000*1000-1");
        is("0-999*1001-1", "0-1000*1000");
        isLess("0-1000*1000", "0-999*1001");
        is("0-1000*1000-1", "0-1000*1000");
        is("0-999*1001-2", "0-1000*1000");
        is("[0-1001]*1000", "0-1000*1000");
        is("1000*[0-1001]", "0-1000*1000");
        is("[0-1001]*[0-1000]", "1000*1000");
        is("[0-1000]*[0-1000]", "1000*1000");
        is("[0-1]*[1000*1000]", "0-1000*1000");
        is("[1000*1000]*[1000*1000]", "1000*1000");
        is("[0-1000*1000]*[1000*1000]", "0-1000*1000");
        is("[0-1000*1000]*[0-1000*1000]", "1000*1000");
        is("1000*1000-[0-1000*1000]", "1000*1000");
        is("0-1000*1000-1000*1000", "0-1000*1000");
    }

    private static void heldBehindEachSign() {
        is("1000*1000+1-1000*1000", "0");
        is("1000*1000+[1-1000*1000]", "1");
        is("1000*1000+1000*1000-1000*1000", "0");
        is("9999*9999/9999", "100");
        is("9999*[9999/9999]", "9999");
        is("0-1000*1000-5+5", "5-1000*1000");
        is("[1000*1000+9]-9", "1000*1000-9");
    }

    private static void cutTowardsNought() {
        is("7/2", "3");
        is("[0-7]/2", "0-3");
        is("7/[0-2]", "0-3");
        is("[0-7]/[0-2]", "3");
        is("8/2", "4");
        is("[0-8]/2", "0-4");
        is("1/2", "0");
        is("[0-1]/2", "0");
        is("[0-2]/2", "0-1");
        is("0/5", "0");
        is("5/0", "0");
        is("[0-5]/0", "0");
        is("0/0", "0");
        is("5/[1-1]+6", "6");
        is("5/1", "5");
        is("5/[0-1]", "0-5");
        is("1000*1000/[0-1]", "0-1000*1000");
        is("[0-1000*1000]/[0-1]", "1000*1000");
    }

    private static void compared() {
        isLess("30", "d");
        is("31", "d");
        isLess("d", "32");
        isLess("0-1", "0");
        holds("!d=30", true);
        holds("!d=31", false);
        holds("!!d=31", true);
        holds("!30<d", false);
        holds("!31<d", true);
        holds("!32>d", false);
        holds("!31>d", true);
        boolean[] truths = {false, true};
        String[] units = {"d=1", "d=31"};
        for (int a = 0; a < 2; a++) {
            for (int b = 0; b < 2; b++) {
                holds(units[a] + "&" + units[b], truths[a] && truths[b]);
                holds(units[a] + "|" + units[b], truths[a] || truths[b]);
                holds("!" + units[a] + "&" + units[b], !truths[a] && truths[b]);
                holds("!" + units[a] + "|" + units[b], !truths[a] || truths[b]);
                holds("!(" + units[a] + "|" + units[b] + ")", !(truths[a] || truths[b]));
                holds("!(" + units[a] + "&" + units[b] + ")", !(truths[a] && truths[b]));
                holds("!!(" + units[a] + "&" + units[b] + ")", truths[a] && truths[b]);
                for (int c = 0; c < 2; c++) {
                    String joined = units[a] + "|" + units[b] + "&" + units[c];
                    holds(joined, truths[a] || truths[b] && truths[c]);
                    holds(units[a] + "&" + units[b] + "|" + units[c], truths[a] && truths[b] || truths[c]);
                    holds("(" + units[a] + "|" + units[b] + ")&" + units[c], (truths[a] || truths[b]) && truths[c]);
                    holds(units[a] + "&(" + units[b] + "|" + units[c] + ")", truths[a] && (truths[b] || truths[c]));
                }
            }
        }
    }

    private static void firstClauseThatHolds() {
        String town = "pw60;pw30;im9";
        flowBy("y:d=30?1;y:d=30?2;y:3", town, 1);
        flowBy("y:d=29?1;y:d=30?2;y:3", town, 2);
        flowBy("y:d=29?1;y:d=31?2;y:3", town, 3);
        flowBy("y:d=29?1;y:d=31?2", town, 0);
        flowBy("y:d=29?1", town, 0);
        flowBy("y:4;y:d=30?1", town, 4);
        flowBy("y:d=29?1;y:5;y:6", town, 5);
        flowBy("y:d=30?0;y:7", town, 0);
        flowBy("y:d=30?0-1;y:7", town, 0);
    }

    /** The tape's 240 bytes, each of them a sign of its own: the last one counts still. */
    private static void longestLaws() {
        String town = "pw60;pw30;im9";
        for (int last = 0; last <= 9; last++) {
            String one = "y:!d=0?" + "0+".repeat(116) + last;
            CHECKS.due("as long as the tape", one.length(), 240);
            flowBy(one, town, last);
            String many = "y:d=0?1;".repeat(29) + "y:d=30?" + last;
            flowBy(many, town, last);
            String truths = "y:" + "d=1|".repeat(58) + "d=30?" + last;
            flowBy(truths, town, last);
            String units = "y:" + "d>1&".repeat(58) + "d=30?" + last;
            flowBy(units, town, last);
            flowBy("y:" + "1*".repeat(118) + last, town, last);
        }
    }

    private static void deepestLaws() {
        String deep = "1+1*[".repeat(6) + "1+1*d" + "]".repeat(6);
        is(deep, "38");
        holds("d=1|d=31&" + deep + "=1+1*37", true);
        holds("d=1|d=31&" + deep + "=1+1*36", false);
        String unit = "d=1|d=31&(".repeat(6);
        holds(unit + "d=1|d=31&7=1+1*6" + ")".repeat(6), true);
        holds(unit + "d=1|d=31&8=1+1*6" + ")".repeat(6), false);
        String three = "1+1*[".repeat(3) + "1+1*d" + "]".repeat(3);
        holds("!(!" + three + "=35)", true);
        holds("!(!" + three + "=36)", false);
    }

    private static void lawsThatHold() {
        PondRoofs x = Checks.town("pw60;pw30;im9");
        CHECKS.due("none at first", x.count(5), -1);
        CHECKS.due("law(NONE) of none", x.law(-1), true);
        for (int laws = 0; laws <= 4; laws++) {
            int[] wrong = {-2, laws, 4, Integer.MAX_VALUE, Integer.MIN_VALUE};
            for (int law : wrong) {
                CHECKS.due("law(" + law + ") of " + laws, x.law(law), false);
                CHECKS.due("what holds stays", x.count(5), laws - 1);
            }
            for (int law = 0; law < laws; law++) {
                CHECKS.due("law(" + law + ") of " + laws, x.law(law), true);
                CHECKS.due("it holds", x.count(5), law);
                CHECKS.due("by it flows", x.pipe(0, 5), law + 1);
                CHECKS.due("law(" + law + ") again", x.law(law), true);
            }
            CHECKS.due("law(NONE)", x.law(-1), true);
            CHECKS.due("by none", x.pipe(0, 5), 9);
            if (laws < 4) {
                CHECKS.due("one law more", Checks.text(x, 1, "y:" + (laws + 1)), laws);
                CHECKS.due("it holds not by itself", x.count(5), -1);
                x.law(laws);
            }
        }
    }

    private static void odds() {
        PondRoofs x = new PondRoofs();
        CHECKS.due("STORM at first", x.count(13), 20);
        CHECKS.due("PIKE at first", x.count(14), 0);
        for (int what = 0; what <= 1; what++) {
            int other = x.count(14 - what);
            int[] values = {99, 98, 1, 0, 50};
            for (int v : values) {
                CHECKS.due("odds(" + what + ", " + v + ")", x.odds(what, v), true);
                CHECKS.due("it is so", x.count(13 + what), v);
                int[] wrong = {v, -1, 100, Integer.MAX_VALUE, Integer.MIN_VALUE};
                for (int w : wrong) {
                    CHECKS.due("odds(" + what + ", " + w + ")", x.odds(what, w), false);
                    CHECKS.due("it stays", x.count(13 + what), v);
                }
            }
            CHECKS.due("the other one stays", x.count(14 - what), other);
        }
        int[] wrong = {-1, 2, Integer.MAX_VALUE, Integer.MIN_VALUE};
        for (int what : wrong) {
            for (int v = 0; v <= 99; v += 33) {
                CHECKS.due("odds(" + what + ", " + v + ")", x.odds(what, v), false);
            }
        }
        CHECKS.due("both stay", x.count(13) * 100 + x.count(14), 5050);
    }
}
