/** Terms 1 and promises 1 to 5 and 18: each bound of the tape and of the three sorts of texts, and both its sides. */
public final class TextBoundsTest {
    private static final Checks CHECKS = new Checks();
    private static final int TOWN = 0;
    private static final int LAW = 1;
    private static final int PLAN = 2;
    private static final int GONE = -1000000;
    private static final int NOWHERE = -1;
    private static final String DIGITS = "0123456789";
    private static final String ATOMS = "[dmwhlt" + DIGITS;
    private static final String UNITS = "!(" + ATOMS;

    public static void main(String[] args) {
        bytesInTheirOrder();
        bytesOfNought();
        tapeFull();
        ends();
        sorts();
        clausesOfATown();
        numbersOfATown();
        itemsTwice();
        untoldItems();
        waterAndCapacity();
        endsOfPipes();
        townsThatEndTooEarly();
        blanksBetweenSigns();
        townsGoOn();
        lawsGoOn();
        numbersOfALaw();
        nestedSix();
        besideOneAnother();
        plansGoOn();
        sixteenSteps();
        stepsThatAreNoFault();
        fourLawsAndPlans();
        anotherTown();
        stepsToldBack();
        CHECKS.finish();
    }

    // ---- the tape

    private static void bytesInTheirOrder() {
        PondRoofs x = new PondRoofs();
        // "pw1c2b3n4e5k6l7f8g9": each number has bytes of its own at each of its places
        CHECKS.due("feed of 19 bytes", x.feed(0x70773163, 0x3262336E, 0x3465356B, 0x366C3766, 0x38673900), 19);
        CHECKS.due("their town", x.text(TOWN), 1);
        for (int what = 0; what < 9; what++) {
            CHECKS.due("pond(0, " + what + ") as fed", x.pond(0, what), what + 1);
        }
        PondRoofs y = new PondRoofs();
        CHECKS.due("feed of 20 bytes", y.feed(0x6F303B6F, 0x313B6F32, 0x3B6F333B, 0x6F343B6F, 0x353B6F36), 20);
        CHECKS.due("their plan", y.text(PLAN), 0);
        for (int i = 0; i < 7; i++) {
            CHECKS.due("step " + i + " as fed", y.step(0, i, 1), i);
        }
        PondRoofs highest = new PondRoofs();
        CHECKS.due("bytes with their highest bit", highest.feed(0x80808080, -1, 0x80FF80FF, Integer.MIN_VALUE, 0), 13);
        CHECKS.due("no town begins with 128", highest.fault(TOWN), 0);
    }

    private static int[] wordsWith(int bytes, int left) {
        int[] words = new int[5];
        for (int i = 0; i < bytes; i++) {
            words[i / 4] |= i == left ? 0 : ' ' << 24 - i % 4 * 8;
        }
        return words;
    }

    private static int feed(PondRoofs x, int bytes, int left) {
        int[] w = wordsWith(bytes, left);
        return x.feed(w[0], w[1], w[2], w[3], w[4]);
    }

    private static void bytesOfNought() {
        PondRoofs x = new PondRoofs();
        CHECKS.due("twenty bytes of 0", x.feed(0, 0, 0, 0, 0), 0);
        for (int place = 0; place < 20; place++) {
            int[] w = new int[5];
            w[place / 4] = 1 << 24 - place % 4 * 8;
            CHECKS.due("a byte alone at " + place, x.feed(w[0], w[1], w[2], w[3], w[4]), place + 1);
        }
        CHECKS.due("0 within a text is left out", Checks.fault(TOWN, "p\0w\0" + "1\0" + "2\0;\0p"), -1);
    }

    private static PondRoofs withBlanks(int bytes) {
        PondRoofs x = new PondRoofs();
        for (int left = bytes; left > 0; left -= 20) {
            feed(x, Math.min(20, left), NOWHERE);
        }
        CHECKS.due("blanks on the tape", x.count(4), bytes);
        return x;
    }

    private static void tapeFull() {
        for (int more = 0; more <= 20; more++) {
            CHECKS.due("up to 239 by " + more, feed(withBlanks(239 - more), more, NOWHERE), 239);
            CHECKS.due("up to 240 by " + more, feed(withBlanks(240 - more), more, NOWHERE), 240);
        }
        for (int more = 1; more <= 20; more++) {
            PondRoofs x = withBlanks(241 - more);
            CHECKS.due("up to 241 by " + more, feed(x, more, NOWHERE), -1);
            CHECKS.due("none of these has come", x.count(4), 241 - more);
            CHECKS.due("one less has room", feed(x, more - 1, NOWHERE), 240);
        }
        for (int left = 0; left < 20; left++) {
            CHECKS.due("nineteen and a 0 at " + left, feed(withBlanks(221), 20, left), 240);
        }
        PondRoofs full = withBlanks(240);
        CHECKS.due("nothing more", feed(full, 0, NOWHERE), 240);
        CHECKS.due("one more", feed(full, 1, NOWHERE), -1);
        for (int bit = 0; bit < 32; bit++) {
            for (int word = 0; word < 5; word++) {
                int[] w = new int[5];
                w[word] = 1 << bit;
                CHECKS.due("one more by bit " + bit, full.feed(w[0], w[1], w[2], w[3], w[4]), -1);
            }
        }
        CHECKS.due("shortened", full.end(239), true);
        CHECKS.due("one more then", feed(full, 1, NOWHERE), 240);
    }

    private static void ends() {
        PondRoofs x = new PondRoofs();
        CHECKS.due("an empty tape's end(0)", x.end(0), true);
        CHECKS.due("an empty tape's end(1)", x.end(1), false);
        CHECKS.due("an empty tape's end(-1)", x.end(-1), false);
        Checks.tape(x, "p;pw12");
        int[] wrong = {-1, 7, 240, 241, Integer.MAX_VALUE, Integer.MIN_VALUE};
        for (int n : wrong) {
            CHECKS.due("end(" + n + ") of six", x.end(n), false);
            CHECKS.due("six stay", x.count(4), 6);
        }
        CHECKS.due("end(6) of six", x.end(6), true);
        CHECKS.due("six stay", x.count(4), 6);
        CHECKS.due("end(5) of six", x.end(5), true);
        CHECKS.due("the last is gone", x.end(6), false);
        CHECKS.due("further bytes come behind", x.feed('5', 0, 0, 0, 0), 6);
        CHECKS.due("text", x.text(TOWN), 2);
        CHECKS.due("its first bytes with the further ones", x.pond(1, 0), 15);
        Checks.tape(x, "p");
        CHECKS.due("end(0) of one", x.end(0), true);
        CHECKS.due("nothing is left", x.count(4), 0);
    }

    private static void sorts() {
        int[] wrong = {-1, 3, 4, Integer.MAX_VALUE, Integer.MIN_VALUE};
        String[] stand = {"p", "y:d", "d1"};
        for (int sort = TOWN; sort <= PLAN; sort++) {
            for (int of = TOWN; of <= PLAN; of++) {
                CHECKS.due("fault(" + sort + ") of " + stand[of], Checks.fault(sort, stand[of]) == -1, sort == of);
            }
            for (int n : wrong) {
                CHECKS.due("fault(" + n + ")", Checks.fault(n, stand[sort]), -2);
                PondRoofs x = new PondRoofs();
                CHECKS.due("text(" + n + ")", Checks.text(x, n, stand[sort]), -1);
                CHECKS.due("the tape stays", x.count(4), stand[sort].length());
                CHECKS.due("it is a text still", x.fault(sort), -1);
            }
        }
    }

    // ---- towns

    private static void fault(int sort, String text, int want) {
        CHECKS.due("fault(" + sort + ") of '" + text + "'", Checks.fault(sort, text), want);
    }

    private static void stands(int sort, String text) {
        fault(sort, text, -1);
    }

    private static void endsTooEarly(int sort, String text) {
        fault(sort, text, text.length());
    }

    private static String times(String clause, int n) {
        return String.join(";", java.util.Collections.nCopies(n, clause));
    }

    private static void clausesOfATown() {
        stands(TOWN, "p");
        stands(TOWN, "s;p");
        fault(TOWN, "s;p;s", 4);
        fault(TOWN, "s;s;p", 2);
        fault(TOWN, "p; s ;p; s", 9);
        for (int ponds = 1; ponds <= 7; ponds++) {
            stands(TOWN, times("p", ponds));
            PondRoofs x = Checks.town(times("p", ponds));
            CHECKS.due("ponds", x.count(0), ponds);
            CHECKS.due("the last one's water", x.pond(ponds - 1, 0), 30);
            CHECKS.refused(x, ponds, 0);
        }
        fault(TOWN, times("p", 8), 14);
        fault(TOWN, times("p", 7) + "; p", 15);
        fault(TOWN, "s;i;" + times("p", 8) + ";q", 18);
        stands(TOWN, "s;" + times("p", 7) + ";i");
        for (int pipes = 0; pipes <= 9; pipes++) {
            String text = "p;p" + (pipes == 0 ? "" : ";" + times("i", pipes));
            stands(TOWN, text);
            CHECKS.due("pipes", Checks.town(text).count(1), pipes);
        }
        fault(TOWN, "p;p;" + times("i", 10), 22);
        fault(TOWN, times("i", 9) + "; i;p;p", 19);
        stands(TOWN, times("i", 9) + ";" + times("p", 7) + ";s");
        stands(TOWN, "i;p;s;i;p;i");
    }

    private static final String[] CLAUSES = {"s", "p", "i"};
    private static final String[] LETTERS = {"rdm", "wcbneklfg", "abmho"};
    private static final int[][] LOWEST = {{0, 0, 0}, {0, 1, 0, 0, 0, 0, 0, 0, 0}, {0, 0, 1, 0, 0}};
    private static final int[][] HIGHEST = {{9, 9, 9}, {99, 99, 9, 99, 9, 99, 99, 99, 9}, {6, 6, 9, 99, 1}};
    private static final int[][] UNTOLD = {{0, 1, 5}, {30, 60, 0, 10, 0, 50, 25, 0, 0}, {0, 1, 3, 0, 0}};

    /** Each letter with each number of one, two and three digits: what stands ahead and behind lets every one in bounds stand. */
    private static void numbersOfATown() {
        String[] ahead = {"p;s", times("p", 7), times("p", 7) + ";i"};
        for (int sort = 0; sort < 3; sort++) {
            for (int item = 0; item < LETTERS[sort].length(); item++) {
                char letter = LETTERS[sort].charAt(item);
                for (int n = 0; n <= 99; n++) {
                    String two = "" + n / 10 + n % 10;
                    number(ahead[sort], sort, item, letter + two);
                    number(ahead[sort], sort, item, letter + " " + two);
                    for (int third = 0; third < 10; third += 3) {
                        String begun = ahead[sort] + letter + two;
                        fault(TOWN, begun + third, begun.length());
                    }
                }
                for (int n = 0; n <= 9; n++) {
                    number(ahead[sort], sort, item, "" + letter + n);
                }
                endsTooEarly(TOWN, ahead[sort] + letter);
                fault(TOWN, ahead[sort] + letter + ";p", (ahead[sort] + letter).length());
            }
        }
    }

    private static void number(String ahead, int sort, int item, String told) {
        int n = Integer.parseInt(told.substring(1).trim());
        String text = ahead + told;
        if (n < LOWEST[sort][item] || n > HIGHEST[sort][item]) {
            fault(TOWN, text, text.length() - 1);
            fault(TOWN, text + " ;", text.length() - 1);
        } else {
            String rest = sort == 1 && item == 0 ? "c99" : sort == 1 && item == 1 ? "w0"
                    : sort == 2 && item == 0 ? "b" + (n == 0 ? 1 : 0) : sort == 2 && item == 1 ? "a" + (n == 0 ? 1 : 0) : "";
            stands(TOWN, text + rest);
            PondRoofs x = Checks.town(text + rest);
            int got = sort == 0 ? x.sky(item) : sort == 1 ? x.pond(6, item) : x.pipe(0, item);
            CHECKS.due(text + rest + " tells " + told, got, n);
        }
    }

    private static void itemsTwice() {
        for (int sort = 0; sort < 3; sort++) {
            StringBuilder all = new StringBuilder("p;p;" + CLAUSES[sort]);
            for (int item = 0; item < LETTERS[sort].length(); item++) {
                char letter = LETTERS[sort].charAt(item);
                String once = "p;p;" + CLAUSES[sort] + letter + "1";
                fault(TOWN, once + letter + "1", once.length());
                fault(TOWN, once + " " + letter, once.length() + 1);
                all.append(letter).append(letter == 'a' ? "0" : "1");
            }
            String text = all.toString().replace("c1", "c99");
            stands(TOWN, text);
            for (int item = 0; item < LETTERS[sort].length(); item++) {
                fault(TOWN, text + LETTERS[sort].charAt(item), text.length());
            }
        }
        stands(TOWN, "pw1;pw1;ia0;ia0");
    }

    private static void untoldItems() {
        PondRoofs x = Checks.town("p;p;i");
        for (int item = 0; item < 3; item++) {
            CHECKS.due("sky(" + item + ") untold", x.sky(item), UNTOLD[0][item]);
        }
        for (int item = 0; item < 9; item++) {
            CHECKS.due("pond(1, " + item + ") untold", x.pond(1, item), UNTOLD[1][item]);
        }
        for (int item = 0; item < 5; item++) {
            CHECKS.due("pipe(0, " + item + ") untold", x.pipe(0, item), UNTOLD[2][item]);
        }
        // what one clause told is not what the next one left untold, nor what the town ahead told
        PondRoofs y = Checks.town("sr9d9m9;pw9c9b9n9e9k9l9f9g9;pw9c9b9n9e9k9l9f9g9;ia1b0m9h9o1");
        Checks.text(y, TOWN, "pw9c9b9n9e9k9l9f9g9;p;ia1b0m9h9o1;i");
        for (int item = 0; item < 3; item++) {
            CHECKS.due("sky(" + item + ") untold behind another town", y.sky(item), UNTOLD[0][item]);
        }
        for (int item = 0; item < 9; item++) {
            CHECKS.due("pond(1, " + item + ") untold behind one told", y.pond(1, item), UNTOLD[1][item]);
        }
        for (int item = 0; item < 5; item++) {
            CHECKS.due("pipe(1, " + item + ") untold behind one told", y.pipe(1, item), UNTOLD[2][item]);
        }
    }

    private static void waterAndCapacity() {
        String[] stand = {"pw0c1", "pw1c1", "pw98c99", "pw99c99", "pc30", "pc31", "pw59", "pw60", "pc9w9"};
        for (String text : stand) {
            stands(TOWN, text);
        }
        String[] more = {"pw2c1", "pw99c98", "pc29", "pc1", "pw61", "pw99", "pc9w10", "pw61 ", "p;pw61", "pw61;p;p;i",
            times("p", 6) + ";pc29", "pw61;s"};
        for (String text : more) {
            endsTooEarly(TOWN, text);
        }
        fault(TOWN, "pw61;q", 5);
        fault(TOWN, "pw61c", 5);
        stands(TOWN, "pw61c61");
    }

    private static void endsOfPipes() {
        for (int ponds = 1; ponds <= 7; ponds++) {
            for (int a = 0; a <= 6; a++) {
                for (int b = 0; b <= 6; b++) {
                    String pipe = "ia" + a + "b" + b;
                    boolean may = a != b && a < ponds && b < ponds;
                    String behind = times("p", ponds) + ";" + pipe;
                    String ahead = pipe + ";" + times("p", ponds) + " ";
                    fault(TOWN, behind, may ? -1 : behind.length());
                    fault(TOWN, ahead, may ? -1 : ahead.length());
                }
            }
        }
        endsTooEarly(TOWN, "p;i");
        endsTooEarly(TOWN, "p;p;ia1");
        endsTooEarly(TOWN, "p;p;ib0");
        endsTooEarly(TOWN, "p;p;ib2");
        endsTooEarly(TOWN, "p;p;i;i;i;i;i;i;i;i;ia1");
        stands(TOWN, "p;p;p;ib2");
        stands(TOWN, "p;p;p;ia2");
    }

    private static void townsThatEndTooEarly() {
        String[] early = {"", " ", "  ", "s", "s ", "i", "s;i", "i;s;i ", "p;", "p; ", "p;p;", "pw", "pw ", "p;i;", "sr9d9m9"};
        for (String text : early) {
            endsTooEarly(TOWN, text);
        }
        String blanks = " ".repeat(240);
        endsTooEarly(TOWN, blanks);
        endsTooEarly(LAW, blanks);
        endsTooEarly(PLAN, blanks);
        stands(TOWN, " ".repeat(239) + "p");
        stands(TOWN, "p" + " ".repeat(239));
        endsTooEarly(TOWN, " ".repeat(239) + "s");
        stands(TOWN, " ".repeat(117) + "p" + " ".repeat(61) + "w" + " ".repeat(59) + "7");
    }

    /** A blank at each place of a text stands, but for the places within a number: there the next digit is the fault. */
    private static void blanks(int sort, String text, boolean numbers) {
        for (int at = 0; at <= text.length(); at++) {
            boolean within = numbers && at > 0 && at < text.length()
                    && Character.isDigit(text.charAt(at - 1)) && Character.isDigit(text.charAt(at));
            for (int many = 1; many <= 2; many++) {
                String spaced = text.substring(0, at) + " ".repeat(many) + text.substring(at);
                fault(sort, spaced, within ? at + many : -1);
            }
        }
    }

    private static void blanksBetweenSigns() {
        blanks(TOWN, "sr1d02m3;pw12c34b5n06e7k89l90f12g3;p;ia1b00m9h99o1", true);
        blanks(LAW, "y:!(d=12|m<3456)&w>h+l-t*[7/89]?[d]*10;y:0", true);
        blanks(PLAN, "o1;c2;d3;w45;w00", false);
        PondRoofs x = new PondRoofs();
        CHECKS.due("a plan with blanks", Checks.text(x, PLAN, " w  4   5 ; d 0"), 0);
        CHECKS.due("its first digit", x.step(0, 0, 1), 4);
        CHECKS.due("its second digit", x.step(0, 0, 2), 5);
        PondRoofs y = Checks.town("  p  w  12  c 34 ");
        CHECKS.due("a number behind blanks", y.pond(0, 0) * 100 + y.pond(0, 1), 1234);
        fault(TOWN, "p\tw1", 1);
        fault(TOWN, "p\nw1", 1);
    }

    /** Behind a beginning that stands so far, each byte but a blank and these is the fault itself. */
    private static void goesOn(int sort, String beginning, String signs) {
        for (char sign = 1; sign < 256; sign++) {
            boolean may = sign == ' ' || signs.indexOf(sign) >= 0;
            int fault = Checks.fault(sort, beginning + sign);
            String call = "fault(" + sort + ") of '" + beginning + "' and byte " + (int) sign;
            if (!may) {
                CHECKS.due(call, fault, beginning.length());
                CHECKS.due(call + " and more", Checks.fault(sort, beginning + sign + "p1;"), beginning.length());
            } else if (fault != -1) {
                CHECKS.due(call, fault, beginning.length() + 1);
            }
        }
    }

    private static void townsGoOn() {
        goesOn(TOWN, "", "spi");
        goesOn(TOWN, "  ", "spi");
        goesOn(TOWN, "s", "rdm;");
        goesOn(TOWN, "p", "wcbneklfg;");
        goesOn(TOWN, "i", "abmho;");
        goesOn(TOWN, "i ", "abmho;");
        goesOn(TOWN, "s;", "pi");
        goesOn(TOWN, "p;", "spi");
        goesOn(TOWN, "s;p;i;", "pi");
        goesOn(TOWN, times("p", 7) + ";", "si");
        goesOn(TOWN, times("i", 9) + ";", "sp");
        goesOn(TOWN, "s;" + times("i", 9) + ";" + times("p", 7) + ";", "");
        goesOn(TOWN, "pw", DIGITS);
        goesOn(TOWN, "pw ", DIGITS);
        goesOn(TOWN, "pw1", DIGITS + "cbneklfg;");
        goesOn(TOWN, "pw1 ", "cbneklfg;");
        goesOn(TOWN, "pw12", "cbneklfg;");
        goesOn(TOWN, "pw12 ", "cbneklfg;");
        goesOn(TOWN, "pg01w12c13", "bneklf;");
        goesOn(TOWN, "pb", DIGITS);
        goesOn(TOWN, "pb0", DIGITS + "wcneklfg;");
        goesOn(TOWN, "pb1", "wcneklfg;");
        goesOn(TOWN, "pc", "123456789");
        goesOn(TOWN, "ia", "0123456");
        goesOn(TOWN, "ia0", "0123456bmho;");
        goesOn(TOWN, "io", "01");
        goesOn(TOWN, "im", "123456789");
        goesOn(TOWN, "sr01d02m", DIGITS);
        goesOn(TOWN, "sr01d02m03", ";");
        goesOn(TOWN, "ia01b00m03h04o01", ";");
    }

    // ---- laws

    private static void lawsGoOn() {
        goesOn(LAW, "", "y");
        goesOn(LAW, "y", ":");
        goesOn(LAW, "y ", ":");
        goesOn(LAW, "y:", UNITS);
        goesOn(LAW, "y: ", UNITS);
        goesOn(LAW, "y:d", "+-*/=<>;");
        goesOn(LAW, "y:d ", "+-*/=<>;");
        goesOn(LAW, "y:1", DIGITS + "+-*/=<>;");
        goesOn(LAW, "y:123", DIGITS + "+-*/=<>;");
        goesOn(LAW, "y:1234", "+-*/=<>;");
        goesOn(LAW, "y:1 ", "+-*/=<>;");
        goesOn(LAW, "y:d;", "y");
        String[] operators = {"+", "-", "*", "/", "=", "<", ">"};
        for (String sign : operators) {
            goesOn(LAW, "y:d" + sign, ATOMS);
        }
        goesOn(LAW, "y:d+m", "+-*/=<>;");
        goesOn(LAW, "y:d=m", "+-*/&|?");
        goesOn(LAW, "y:d<1", DIGITS + "+-*/&|?");
        goesOn(LAW, "y:d>m*l", "+-*/&|?");
        goesOn(LAW, "y:d=m&", UNITS);
        goesOn(LAW, "y:d=m|", UNITS);
        goesOn(LAW, "y:d=m&w", "+-*/=<>");
        goesOn(LAW, "y:d=m|[w]", "+-*/=<>");
        goesOn(LAW, "y:d=m?", ATOMS);
        goesOn(LAW, "y:d=m?d", "+-*/;");
        goesOn(LAW, "y:d=m?[d]", "+-*/;");
        goesOn(LAW, "y:d=m?d;", "y");
        goesOn(LAW, "y:!", UNITS);
        goesOn(LAW, "y:!d", "+-*/=<>");
        goesOn(LAW, "y:!d=m", "+-*/&|?");
        goesOn(LAW, "y:(", UNITS);
        goesOn(LAW, "y:(d", "+-*/=<>");
        goesOn(LAW, "y:(d=m", "+-*/&|)");
        goesOn(LAW, "y:(d=m)", "&|?");
        goesOn(LAW, "y:((d=m)", "&|)");
        goesOn(LAW, "y:(!d=m", "+-*/&|)");
        goesOn(LAW, "y:[", ATOMS);
        goesOn(LAW, "y:[d", "+-*/]");
        goesOn(LAW, "y:[d]", "+-*/=<>;");
        goesOn(LAW, "y:[[d]", "+-*/]");
        goesOn(LAW, "y:([d", "+-*/]");
        goesOn(LAW, "y:([d]", "+-*/=<>");
        goesOn(LAW, "y:d=[d", "+-*/]");
        goesOn(LAW, "y:d=m?[d", "+-*/]");
        String[] early = {"", "y", "y:", "y:d;", "y:d+", "y:d=", "y:d=1", "y:d=1?", "y:!", "y:!d", "y:(", "y:(d", "y:(d=1",
            "y:(d=1)", "y:[", "y:[d", "y:d=1&", "y:d=1|", "y:d;y", "y:d;y:", "y:d=1 ", "y:[d] = [1] & d = m "};
        for (String text : early) {
            endsTooEarly(LAW, text);
        }
    }

    private static void numbersOfALaw() {
        String[][] rounds = {{"y:", ""}, {"y:d+", ""}, {"y:[", "]"}, {"y:d=", "?d"}, {"y:d=1?", ""}, {"y:!d<", "?d"}};
        for (String[] round : rounds) {
            String beginning = round[0];
            for (String digits : new String[] {"0", "00", "999", "1000", "0000", "9999"}) {
                stands(LAW, beginning + digits + round[1]);
            }
            for (String digits : new String[] {"00000", "10000", "99999", "123456"}) {
                fault(LAW, beginning + digits + round[1], beginning.length() + 4);
            }
            fault(LAW, beginning + "1234 5" + round[1], beginning.length() + 5);
            fault(LAW, beginning + "1 2" + round[1], beginning.length() + 2);
        }
        for (int n = 0; n <= 9999; n += 1111) {
            stands(LAW, "y:" + n);
        }
    }

    /** Of ( and ! any may stand within one another, of [ only such within. */
    private static String opened(int deep, int square, int bits) {
        StringBuilder signs = new StringBuilder();
        for (int i = 0; i < deep; i++) {
            signs.append(i >= deep - square ? '[' : (bits >> i & 1) == 0 ? '(' : '!');
        }
        return signs.toString();
    }

    private static String closed(String opened) {
        StringBuilder text = new StringBuilder();
        boolean compared = false;
        for (int i = opened.length() - 1; i >= 0; i--) {
            if (opened.charAt(i) != '[' && !compared) {
                text.append("=d");
                compared = true;
            }
            text.append(opened.charAt(i) == '[' ? "]" : opened.charAt(i) == '(' ? ")" : "");
        }
        return compared ? text + "?d" : text.toString();
    }

    private static void nestedSix() {
        for (int square = 0; square <= 6; square++) {
            for (int bits = 0; bits < 1 << 6 - square; bits++) {
                String six = opened(6, square, bits);
                stands(LAW, "y:" + six + "d" + closed(six));
                stands(LAW, "y:" + six.substring(1) + "d" + closed(six.substring(1)));
                String begun = "y:" + six;
                endsTooEarly(LAW, begun);
                fault(LAW, begun + "[d", begun.length());
                fault(LAW, begun + " [d", begun.length() + 1);
                fault(LAW, begun + "d+[", begun.length() + 2);
                // a ! ends with its unit: what stands beside that is no more within it
                if (square == 0) {
                    fault(LAW, begun + "!d=d", begun.length());
                    fault(LAW, begun + "(d=d", begun.length());
                    fault(LAW, begun + "d=d&!", begun.length() + (six.endsWith("!") ? 5 : 4));
                }
                fault(LAW, begun.substring(0, 7) + "d+[d+[", begun.length() + 4);
            }
        }
        fault(LAW, "y:d=d?[[[[[[[", 12);
        stands(LAW, "y:d=d?[[[[[[d]]]]]]");
        fault(LAW, "y:d=d&((((((d=d&!", 16);
    }

    private static void besideOneAnother() {
        stands(LAW, "y:[d]+[d]-[d]*[d]/[d]+[d]+[d]+[d]");
        stands(LAW, "y:!d=1&!d=1&!d=1|!d=1|!d=1&!d=1&!d=1&!d=1?d");
        stands(LAW, "y:(d=1)&(d=1)|(d=1)&(d=1)&(d=1)&(d=1)&(d=1)?[d]");
        stands(LAW, "y:!!!!!!d=1&!!!!!!d=1?[[[[[[d]]]]]];y:[[[[[[d]]]]]]");
        stands(LAW, "y:!!!!!(d=1)&!!!!!(d=1)?d");
        fault(LAW, "y:!!!!!(d=1)&!!!!!((d=1)", 19);
        stands(LAW, "y:(((((d=1)&!d=1)&!d=1)&!d=1)&!d=1)?d");
    }

    // ---- plans

    private static void plansGoOn() {
        goesOn(PLAN, "", "ocdw");
        goesOn(PLAN, " ", "ocdw");
        for (String letter : new String[] {"o", "c", "d"}) {
            goesOn(PLAN, letter, DIGITS);
            goesOn(PLAN, letter + " ", DIGITS);
            goesOn(PLAN, letter + "1", ";");
            goesOn(PLAN, letter + "1 ", ";");
        }
        goesOn(PLAN, "w", DIGITS);
        goesOn(PLAN, "w1", DIGITS);
        goesOn(PLAN, "w1 ", DIGITS);
        goesOn(PLAN, "w12", ";");
        goesOn(PLAN, "o1;", "ocdw");
        goesOn(PLAN, times("o1", 15), ";");
        goesOn(PLAN, times("o1", 15) + ";", "ocdw");
        goesOn(PLAN, times("o1", 16), "");
        String[] early = {"", " ", "o", "o1;", "w", "w1", "w1 ", "w12; ", "d1;c"};
        for (String text : early) {
            endsTooEarly(PLAN, text);
        }
    }

    private static void sixteenSteps() {
        for (int steps = 1; steps <= 16; steps++) {
            stands(PLAN, times("w 1 2", steps) + " ");
            PondRoofs x = new PondRoofs();
            CHECKS.due("a plan of " + steps, Checks.text(x, PLAN, times("d3", steps)), 0);
            CHECKS.due("its last step", x.step(0, steps - 1, 1), 3);
            CHECKS.due("no further one", x.step(0, steps, 1), GONE);
        }
        fault(PLAN, times("d1", 17), 47);
        fault(PLAN, times("d1", 16) + ";", 47);
        fault(PLAN, times("d1", 16) + "  ; d1", 49);
        fault(PLAN, times("d1", 15) + ";q1;d1", 45);
    }

    private static void stepsThatAreNoFault() {
        stands(PLAN, "o9;c9;d0;w90;w99;o0;w00;d9");
    }

    // ---- texts

    private static void fourLawsAndPlans() {
        for (int sort = LAW; sort <= PLAN; sort++) {
            String text = sort == LAW ? "y:7" : "d7";
            PondRoofs x = Checks.town("p");
            for (int i = 0; i < 4; i++) {
                CHECKS.due("kept so far", x.count(1 + sort), i);
                CHECKS.due("a fault is no text", Checks.text(x, sort, text + ";"), -1);
                CHECKS.due("text(" + sort + ") " + i, Checks.text(x, sort, text), i);
                CHECKS.due("the tape is empty", x.count(4), 0);
                CHECKS.due("an empty tape is none", x.text(sort), -1);
            }
            CHECKS.due("a fifth", Checks.text(x, sort, text), -1);
            CHECKS.due("four", x.count(1 + sort), 4);
            CHECKS.due("the fifth stays on the tape", x.count(4), text.length());
            CHECKS.due("it has no fault", x.fault(sort), -1);
            CHECKS.due("a fifth behind another town", Checks.text(x, TOWN, "p;p"), 2);
            CHECKS.due("a fifth behind another town", Checks.text(x, sort, text), -1);
            int other = LAW + PLAN - sort;
            CHECKS.due("one of the others", Checks.text(x, other, other == LAW ? "y:7" : "d7"), 0);
        }
    }

    private static void anotherTown() {
        PondRoofs x = Checks.town("sr9d0;pw60f9g2;pw3;pw4;io1");
        Checks.text(x, LAW, "y:1");
        Checks.text(x, PLAN, "d2;o0");
        x.law(0);
        x.odds(0, 7);
        x.odds(1, 8);
        x.measured(2, 3);
        x.days(5);
        x.image();
        x.key(0, false);
        CHECKS.due("a town with a fault", Checks.text(x, TOWN, "pw7;"), -1);
        CHECKS.due("all stays", x.count(0) * 1000 + x.count(6) * 100 + x.count(16) * 10 + x.count(18), 3 * 1000 + 5 * 100 + 10 + 6);
        CHECKS.due("the image stays", x.back(), 5);
        x.key(0, false);
        x.days(2);
        CHECKS.due("another town", Checks.text(x, TOWN, "pw7;pw2"), 2);
        int[] counts = {2, 0, 1, 1, 0, 0, 0, 9, 0, 0, 0, -11, 111, 7, 8, 0, 0, 0, 0};
        for (int what = 0; what < counts.length; what++) {
            CHECKS.due("count(" + what + ") of another town", x.count(what), counts[what]);
        }
        CHECKS.due("nothing can be undone", x.undo(), -1);
        CHECKS.due("no image of it", x.back(), -1);
        CHECKS.due("its log", x.log(0, 0), -1);
        CHECKS.due("nothing measured in it", x.secret(-1), 19);
        CHECKS.due("plans stay", x.step(0, 1, 0), 0);
        CHECKS.refused(x, 2, 0);
        CHECKS.due("no pipe of the other one", x.pipe(0, 0), -1);
        CHECKS.due("a day", x.days(1), 1);
        CHECKS.due("one act", x.undo(), 0);
        smallerTowns();
    }

    /** A town of the most and then a small one: all answers are those of an object that had the small one alone. */
    private static void smallerTowns() {
        String most = "sr9d9m0;" + times("pw9c9b9n9e9k9l9f9g9", 7) + ";" + times("ib6m9o1", 9);
        String[] towns = {"p", "p;p", "p;p;i", "s;pw5;pw9;pw1;io1;ia2b1", times("p", 7), times("p", 6) + ";" + times("i", 8)};
        for (String town : towns) {
            PondRoofs x = Checks.town(most);
            x.measured(6, 9);
            x.days(3);
            x.image();
            CHECKS.due("the smaller town", Checks.text(x, TOWN, town), Checks.town(town).count(0));
            CHECKS.due(town + " behind a greater one", Seen.of(x).equals(Seen.of(Checks.town(town))), true);
            PondRoofs y = Checks.town(most);
            Checks.text(y, TOWN, town);
            y.days(9);
            PondRoofs fresh = Checks.town(town);
            fresh.days(9);
            CHECKS.due("its days", Seen.of(y).equals(Seen.of(fresh)), true);
        }
    }

    private static void stepsToldBack() {
        PondRoofs x = new PondRoofs();
        CHECKS.due("no plan yet", x.step(0, 0, 0), GONE);
        for (int kind = 0; kind < 4; kind++) {
            Checks.text(x, PLAN, "d0;" + "ocdw".charAt(kind) + kind + (kind == 3 ? "9" : "") + ";o9");
            CHECKS.due("what it is", x.step(kind, 1, 0), kind);
            CHECKS.due("its first digit", x.step(kind, 1, 1), kind);
            CHECKS.due("its second digit", x.step(kind, 1, 2), kind == 3 ? 9 : -1);
            CHECKS.due("the first step", x.step(kind, 0, 0), 2);
            CHECKS.due("the last step", x.step(kind, 2, 1), 9);
            int[][] wrong = {{kind, 3, 0}, {kind, -1, 0}, {kind, 0, 3}, {kind, 0, -1}, {kind + 1, 0, 0}, {-1, 0, 0},
                {Integer.MAX_VALUE, 0, 0}, {kind, Integer.MAX_VALUE, 0}, {kind, Integer.MIN_VALUE, 0}, {kind, 0, Integer.MAX_VALUE}};
            for (int[] w : wrong) {
                CHECKS.due("step(" + w[0] + ", " + w[1] + ", " + w[2] + ")", x.step(w[0], w[1], w[2]), GONE);
            }
        }
    }
}
