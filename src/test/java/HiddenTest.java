/** Promises 30 to 32: what was measured, hidden pipes that fit it, the pond to be measured next. */
public final class HiddenTest {
    private static final Checks CHECKS = new Checks();

    public static void main(String[] args) {
        measured();
        secrets();
        nextMeasure();
        CHECKS.finish();
    }

    private static void measured() {
        PondRoofs x = Checks.town("p;p");
        CHECKS.due("10 more", x.measured(0, 10), -1);
        CHECKS.due("10 less", x.measured(0, -10), -1);
        CHECKS.due("no such pond", x.measured(2, 0), -1);
        CHECKS.due("no such pond", x.measured(-1, 0), -1);
        CHECKS.due("no town", new PondRoofs().measured(0, 0), -1);
        CHECKS.due("none yet", x.count(16), 0);
        for (int i = 1; i <= 10; i++) {
            CHECKS.due("measured", x.measured(i % 2, i % 2 == 0 ? 9 : -9), i);
        }
        CHECKS.due("an eleventh", x.measured(0, 9), -1);
        CHECKS.due("ten", x.count(16), 10);
        CHECKS.due("one way fits", x.secret(-1), 1);
        CHECKS.due("from 1 to 0, nine", x.secret(0), 1109);
        x.days(1);
        CHECKS.due("measured is no act", x.undo(), 0);
        CHECKS.due("it stays", x.count(16), 10);
    }

    private static void secrets() {
        PondRoofs x = Checks.town("p;p;p");
        CHECKS.due("how many", x.secret(-1), 55);
        int i = 1;
        for (int from = 0; from < 3; from++) {
            for (int to = 0; to < 3; to++) {
                for (int much = 1; much <= 9 && to != from; much++) {
                    CHECKS.due("secret(" + i + ")", x.secret(i), 1000 + 100 * from + 10 * to + much);
                    i++;
                }
            }
        }
        CHECKS.due("none", x.secret(0), 0);
        CHECKS.due("no such one", x.secret(55), -1);
        CHECKS.due("no such one", x.secret(-2), -1);
        CHECKS.due("no town", new PondRoofs().secret(0), -1);
        CHECKS.due("no town", new PondRoofs().secret(-1), -1);
        x.measured(1, 0);
        CHECKS.due("none, or between the others", x.secret(-1), 19);
        CHECKS.due("none", x.secret(0), 0);
        CHECKS.due("from 0 to 2", x.secret(1), 1021);
        CHECKS.due("from 2 to 0", x.secret(10), 1201);
        x.measured(2, 4);
        CHECKS.due("one", x.secret(-1), 1);
        CHECKS.due("from 0 to 2, four", x.secret(0), 1024);
        x.measured(2, 3);
        CHECKS.due("nothing fits", x.secret(-1), 0);
        CHECKS.due("nothing fits", x.secret(0), -1);
        CHECKS.due("nothing fits", x.measure(), -1);
        CHECKS.due("one pond", Checks.town("p").secret(-1), 1);
        CHECKS.due("seven ponds", Checks.town("p;p;p;p;p;p;p").secret(-1), 379);
        CHECKS.due("the last of seven", Checks.town("p;p;p;p;p;p;p").secret(378), 1659);
    }

    private static void nextMeasure() {
        CHECKS.due("no town", new PondRoofs().measure(), -1);
        CHECKS.due("one pond", Checks.town("p").measure(), 0);
        CHECKS.due("alike", Checks.town("p;p").measure(), 0);
        PondRoofs x = Checks.town("p;p;p;p");
        x.measured(0, 0);
        CHECKS.due("the first one is known", x.measure(), 1);
        x.measured(1, 3);
        CHECKS.due("from 2 or 3", x.secret(-1), 2);
        CHECKS.due("the lowest that tells", x.measure(), 2);
        x.measured(2, 0);
        CHECKS.due("all known: the lowest", x.measure(), 0);
        PondRoofs y = Checks.town("p;p;p");
        y.measured(2, 5);
        CHECKS.due("from 0 or 1 to 2", y.measure(), 0);
    }
}
