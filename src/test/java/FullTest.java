/**
 * Every room full at once, which takes more than 512 calls: answers are free then ("what later calls answer is free"),
 * so none is looked at, but no call may throw or fail to end (LANGUAGE.md, 7). RoomTest looks at each room within 512.
 */
public final class FullTest {
    private static final Checks checks = new Checks();
    private static final TreatyClaims x = new TreatyClaims();
    private static final int[] ODD = {Integer.MIN_VALUE, -10, -9, -3, -2, -1, 0, 1, 2, 3, 4, 5, 9, 10, 12, 13, 14, 15, 16, 19, 20,
        23, 24, 29, 30, 45, 46, 59, 60, 61, 149, 150, 151, 199, 200, 599, 600, 601, 1999, 2000, Integer.MAX_VALUE};
    private static final int TODAY = 120;

    public static void main(String[] args) {
        people();
        rules();
        things();
        claims();
        papers();
        askAll();
        decide();
        pay();
        askOdd();
        checks.holds("all of that ended, and nothing was thrown", true);
        checks.close("FullTest");
    }

    private static void people() {
        for (int i = 0; i < 61; i++) {
            x.person();
            x.rate(1 + i % 3, i, 50 + i);
        }
        for (int i = 0; i < 59; i++) {
            x.heir(59, i, 1 + i);
        }
        x.dead(59, 0);
        for (int i = 0; i < 60; i++) {
            x.nation(i, i % 7 == 0 ? 2 : 0, 30);
            x.umpire(i, true);
        }
        for (int i = 0; i < 81; i++) {
            x.nation(0, 2, i + 40);
        }
        x.pass(TODAY);
    }

    private static void rules() {
        StringBuilder text = new StringBuilder("late 9;test 2;split umpire;chain always;rate 5 loss;");
        for (int i = 0; i < 16; i++) {
            text.append("weigh ").append((char) ('a' + i)).append(' ').append(1 + i).append(';');
        }
        for (int i = 0; i < 10; i++) {
            text.append("must z ").append((char) ('a' + i)).append(';');
            text.append("either y a b;need ").append((char) ('i' + i)).append(" 0;");
        }
        Checks.put(x, text.substring(0, Math.min(600, text.length())));
        x.rules(0);
        Checks.put(x, text.substring(0, Math.min(600, text.length())));
        x.rules(3);
    }

    private static void things() {
        for (int i = 0; i < 31; i++) {
            x.thing(i, 255, i == 29 ? -1 : 5000 - i * 7);
        }
    }

    private static void claims() {
        for (int i = 0; i < 61; i++) {
            Checks.put(x, i % 3 == 0 ? "z" : "i");
            x.claim(59 - i % 60, 0, i % 30, i % 4, i % 4, 900 + i);
            x.mark(i, i * 3);
        }
    }

    private static void papers() {
        for (int i = 0; i < 151; i++) {
            Checks.put(x, Character.toString((char) ('a' + i % 16)));
            x.paper(i * 2 % 60, i % 61 - 1, i);
        }
    }

    private static void askAll() {
        for (int i = 0; i < 60; i++) {
            for (int v = 0; v < 4; v++) {
                x.fails(i, v, TODAY);
                x.points(i, v, TODAY);
                x.lacks(i, v, TODAY);
                x.weakest(i, v, TODAY);
                x.beside(v, i % 4);
            }
            x.due(i);
            x.heirOn(59, TODAY, i, 1);
            x.nationOn(i, 70, TODAY);
            x.deadOn(i, 70, TODAY);
            x.rateOn(i % 4, i);
            x.lost(i % 30, i / 10);
        }
        x.lots();
        for (int n = 1; n < 4; n++) {
            x.tests(n);
            x.test(n - 1);
        }
    }

    private static void decide() {
        for (int i = 0; i < 60; i++) {
            int due = x.due(i);
            int b = i % 5 == 0 ? due / 2 : due;
            x.vote(i, due, b);
            x.lot(i, i % 3, b);
            x.again(i);
            x.spread(i);
        }
    }

    private static void pay() {
        for (int i = 0; i < 4; i++) {
            x.fund(7001);
            x.wave();
            x.fund(501);
            x.last();
        }
        for (int i = 0; i < 60; i++) {
            x.purse(i);
            x.about(i, 10);
        }
    }

    /** Numbers at and beyond all edges. */
    private static void askOdd() {
        for (int a : ODD) {
            for (int b : ODD) {
                askTwo(a, b);
            }
            x.count(a);
            x.test(a);
            x.purse(a);
            x.fault(a);
            x.end(a);
            x.due(a);
            x.again(a);
            x.withdraw(a);
        }
    }

    private static void askTwo(int a, int b) {
        x.heirOn(59, a, b, 0);
        x.heirOn(a, TODAY, 0, b);
        x.nationOn(59, a, b);
        x.deadOn(a, b, TODAY);
        x.rateOn(a, b);
        x.rule(a, b);
        x.lost(a, b);
        x.about(a, b);
        x.forged(a, b);
        x.fails(a, 0, b);
        x.points(a, 0, b);
        x.lacks(a, 0, b);
        x.weakest(a, b, TODAY);
        x.like(a, b);
        x.vote(a, b, b);
        x.lot(a, b, b);
        x.beside(a, b);
    }
}
