import java.util.ArrayList;
import java.util.List;

/** All that can be seen of an object by calls that change nothing, so that two of them can be compared. */
final class Seen {
    private static final int GONE = -1000000;

    private final List<Long> seen = new ArrayList<>();
    private final PondRoofs x;

    private Seen(PondRoofs x) {
        this.x = x;
    }

    /** Laws are tried one by one at the end: the object is not to be used any more. */
    static List<Long> of(PondRoofs x) {
        Seen s = new Seen(x);
        s.counts();
        s.ponds();
        s.logAndPlans();
        s.town();
        s.flows();
        return s.seen;
    }

    private void see(long answer) {
        seen.add(answer);
    }

    private void counts() {
        for (int what = 0; what <= 18; what++) {
            see(x.count(what));
        }
        for (int sort = 0; sort < 3; sort++) {
            see(x.fault(sort));
            see(x.sky(sort));
        }
    }

    private void ponds() {
        for (int pond = 0; pond < x.count(0); pond++) {
            for (int what = 0; what <= 9; what++) {
                see(x.pond(pond, what));
            }
            see(x.ahead(pond, 3));
            see(x.dries(pond));
            see(x.rest(pond));
            see(x.joined(pond));
            see(x.rent(pond));
            see(x.trend(pond));
        }
    }

    private void logAndPlans() {
        for (int i = 0; i < Math.min(20, x.count(17)); i++) {
            see(x.log(i, 0) * 100000L + x.log(i, 1) * 1000L + x.log(i, 2));
        }
        for (int plan = 0; plan < x.count(3); plan++) {
            for (int i = 0; x.step(plan, i, 0) != GONE; i++) {
                see(x.step(plan, i, 0) * 100L + x.step(plan, i, 1) * 10L + x.step(plan, i, 2));
            }
            see(x.run(plan, 0));
            see(x.run(plan, 1));
        }
    }

    private void town() {
        for (int i = -1; i <= 2; i++) {
            see(x.secret(i));
        }
        int[] answers = {x.measure(), x.measure(), x.bare(), x.keys(2), x.kept(3, 0), x.kept(3, 1), x.cut(1), x.cut(9), x.apart(),
            x.walls(), x.feud(0, 1, 0, 1, 2, 1, 0), x.rests(0, 1, 0, 1, 2, -1), x.rests(0, 1, 0, 0, 2, 0), x.reads(0), x.reads(9),
            x.darkest(), x.shares(), x.largest(), x.eaten(4)};
        for (int answer : answers) {
            see(answer);
        }
    }

    private void flows() {
        for (int law = -1; law < x.count(2); law++) {
            x.law(law);
            for (int pipe = 0; pipe < x.count(1); pipe++) {
                for (int what = 0; what <= 5; what++) {
                    see(x.pipe(pipe, what));
                }
            }
        }
    }
}
