import java.util.ArrayList;
import java.util.List;

/** One object in which something of every sort stands, and all that can be asked of it, within its 512 calls. */
final class World {
    static final int NONE = TreatyClaims.NONE;
    static final int PERSONS = 6;
    static final int THINGS = 3;
    static final int CLAIMS = 6;
    static final int PAPERS = 4;
    static final int TODAY = 12;
    /** One claim of each state; and what is due of the open one. */
    static final int OPEN = 3;
    static final int OPEN_DUE = 303;
    static final int SPLIT = 1;
    static final int DECIDED = 0;
    static final int WITHDRAWN = 2;
    /** The votes on the split one, and how many can be drawn for it. */
    static final int LESSER_VOTE = 10;
    static final int GREATER_VOTE = 20;
    static final int LOTS = 2;
    static final String ON_TAPE = "deed";

    private World() {
    }

    static TreatyClaims made() {
        TreatyClaims x = Checks.withPersons(PERSONS);
        Checks.rules(x, 0, "need ship 1;weigh deed 1;either ship deed oath;split umpire;late 5;test 1;rate 9 loss;cap 9;");
        Checks.rules(x, 1, "need ship 0;order lender;must ship bill;need house 7;weigh bill 4;");
        x.nation(4, 2, 0);
        x.nation(5, 3, 11);
        x.umpire(4, true);
        x.umpire(5, true);
        x.umpire(0, true);
        x.rate(1, 0, 250);
        x.thing(0, 3, 1000);
        x.pass(10);
        x.thing(4, 1, NONE);
        x.thing(10, 2, 250);
        int[] things = {0, 0, 0, 1, 2, 0};
        for (int c = 0; c < CLAIMS; c++) {
            Checks.claim(x, c, things[c], c % 4, 300 + c, c == 4 ? "house" : "ship");
        }
        for (int c = 0; c < PAPERS; c++) {
            Checks.paper(x, c, c == 3 ? 4 : NONE, 9, "deed");
        }
        x.mark(3, 1);
        x.vote(DECIDED, 300, 300);
        x.vote(SPLIT, GREATER_VOTE, LESSER_VOTE);
        x.withdraw(WITHDRAWN);
        x.heir(0, 1, 2);
        x.heir(0, 2, 1);
        x.dead(0, 12);
        x.fund(500);
        x.wave();
        x.pass(2);
        x.tests(2);
        Checks.rules(x, 2, "bar 5;bar 6;");
        Checks.write(x, ON_TAPE);
        return x;
    }

    /** What it answers to all that asks, and then to calls that change it. */
    static List<Integer> answers(TreatyClaims x) {
        List<Integer> all = new ArrayList<>();
        askCounts(x, all);
        askPeople(x, all);
        askRules(x, all);
        askClaims(x, all);
        goOn(x, all);
        return all;
    }

    private static void askCounts(TreatyClaims x, List<Integer> all) {
        for (int what = 0; what <= 10; what++) {
            all.add(x.count(what));
        }
        for (int state = 0; state < 4; state++) {
            all.add(x.count(20 + state));
        }
        all.add(x.kind(0));
        all.add(x.fault(0));
        all.add(x.fault(1));
        for (int i = 0; i < 3; i++) {
            all.add(x.test(i));
        }
        all.add(x.lots());
    }

    private static void askPeople(TreatyClaims x, List<Integer> all) {
        for (int p = 0; p <= PERSONS; p++) {
            all.add(x.nationOn(p, 0, TODAY));
            all.add(x.nationOn(p, TODAY, TODAY));
            all.add(x.deadOn(p, TODAY, TODAY));
            all.add(x.deadOn(p, 1999, 1999));
            all.add(x.purse(p));
        }
        for (int i = 0; i < 3; i++) {
            all.add(x.heirOn(0, TODAY, i, 0));
            all.add(x.heirOn(0, TODAY, i, 1));
        }
        for (int currency = 0; currency < 4; currency++) {
            all.add(x.rateOn(currency, TODAY));
        }
    }

    private static void askRules(TreatyClaims x, List<Integer> all) {
        for (int v = 0; v < 3; v++) {
            for (int what = 0; what < 14; what++) {
                all.add(x.rule(v, what));
            }
            for (int i = 0; i < 4; i++) {
                all.add(x.rule(v, 20 + i));
                all.add(x.rule(v, 30 + i));
            }
        }
    }

    private static void askClaims(TreatyClaims x, List<Integer> all) {
        for (int t = 0; t <= THINGS; t++) {
            for (int what = 0; what < 6; what++) {
                all.add(x.lost(t, what));
            }
        }
        for (int c = 0; c <= CLAIMS; c++) {
            for (int what = 4; what < 14; what++) {
                all.add(x.about(c, what));
            }
            all.add(x.fails(c, 0, TODAY));
            all.add(x.points(c, 0, TODAY));
            all.add(x.due(c));
        }
        for (int k = 0; k <= PAPERS; k++) {
            all.add(x.forged(k, 1999));
        }
        all.add(x.beside(1, 0));
    }

    private static void goOn(TreatyClaims x, List<Integer> all) {
        all.add(x.person());
        all.add(x.dead(0, 5));
        all.add(x.rate(1, 3, 5));
        all.add(x.thing(1, 1, 77));
        all.add(Checks.claim(x, 1, 0, 3, 8, "ship"));
        all.add(Checks.paper(x, 4, NONE, 9, "bill"));
        all.add(x.lot(SPLIT, 0, LESSER_VOTE));
        all.add(x.spread(DECIDED));
        all.add(x.again(DECIDED));
        all.add(x.vote(4, 0, 0));
        all.add(x.fund(3));
        all.add(x.wave());
        all.add(x.purse(1));
        all.add(x.umpire(1, true));
        all.add(x.force(1));
        all.add(x.pass(1));
    }
}
