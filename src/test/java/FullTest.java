/** Every room is full, and every call is asked beside the model; more than 512 calls, but none may ever throw. */
public final class FullTest {
    private static final Checks checks = new Checks();
    private static final TreatyClaims x = new TreatyClaims();
    private static final Model m = new Model();
    private static final int[] ODD = {Integer.MIN_VALUE, -10, -9, -3, -2, -1, 0, 1, 2, 3, 4, 5, 9, 10, 12, 13, 14, 15, 16, 19, 20,
        23, 24, 29, 30, 45, 46, 59, 60, 61, 149, 150, 151, 199, 200, 599, 600, 601, 1999, 2000, Integer.MAX_VALUE};

    public static void main(String[] args) {
        people();
        rules();
        things();
        claims();
        papers();
        askAll();
        decide();
        pay();
        askOdd();
        checks.close("FullTest");
    }

    private static void write(String text) {
        Checks.write(x, text);
        m.tape = text;
    }

    private static void people() {
        for (int i = 0; i < 61; i++) {
            checks.due("person " + i, x.person(), m.person());
        }
        for (int i = 0; i < 61; i++) {
            checks.due("rate " + i, x.rate(1 + i % 3, i, 50 + i), m.rate(1 + i % 3, i, 50 + i));
        }
        for (int i = 0; i < 59; i++) {
            checks.due("heir " + i, x.heir(59, i, 1 + i), m.heir(59, i, 1 + i));
        }
        checks.due("dead 59", x.dead(59, 0), m.dead(59, 0));
        for (int i = 0; i < 60; i++) {
            checks.due("nation " + i, x.nation(i, i % 7 == 0 ? 2 : 0, 30), m.nation(i, i % 7 == 0 ? 2 : 0, 30));
            checks.due("umpire " + i, x.umpire(i, true), m.umpire(i, true));
        }
        for (int i = 0; i < 81; i++) {
            checks.due("one more " + i, x.nation(0, 2, i + 40), m.nation(0, 2, i + 40));
        }
        checks.due("tellings", x.count(2), 200);
        for (int i = 0; i < 3; i++) {
            checks.due("pass", x.pass(40), m.pass(40));
        }
    }

    private static void rules() {
        StringBuilder text = new StringBuilder("late 9;test 2;split umpire;chain always;rate 5 loss;");
        for (int i = 0; i < 16; i++) {
            text.append("weigh ").append((char) ('a' + i)).append(' ').append(1 + i).append(';');
        }
        for (int i = 0; i < 10; i++) {
            text.append("must z ").append((char) ('a' + i)).append(';');
            text.append("either y a b;need ").append((char) ('i' + i)).append(" 0;");
        }
        String full = text.substring(0, Math.min(600, text.length()));
        write(full);
        checks.due("rules of " + full.length() + " bytes", x.rules(0), m.rules(0));
        checks.holds("they stand", x.fault(0) == 0);
        write(full);
        checks.due("rules of another", x.rules(3), m.rules(3));
    }

    private static void things() {
        for (int i = 0; i < 31; i++) {
            int worth = i == 29 ? -1 : 5000 - i * 7;
            checks.due("thing " + i, x.thing(i, 255, worth), m.thing(i, 255, worth));
        }
    }

    private static void claims() {
        for (int i = 0; i < 61; i++) {
            write(i % 3 == 0 ? "z" : "i");
            checks.due("claim " + i, x.claim(59 - i % 60, 0, i % 30, i % 4, i % 4, 900 + i),
                m.claim(59 - i % 60, 0, i % 30, i % 4, i % 4, 900 + i));
            checks.due("mark " + i, x.mark(i, i * 3), m.mark(i, i * 3));
        }
    }

    private static void papers() {
        for (int i = 0; i < 151; i++) {
            write(Character.toString((char) ('a' + i % 16)));
            checks.due("paper " + i, x.paper(i * 2 % 60, i % 61 - 1, i), m.paper(i * 2 % 60, i % 61 - 1, i));
        }
    }

    private static void askAll() {
        for (int i = 0; i < 60; i++) {
            for (int v = 0; v < 2; v++) {
                checks.due("fails " + i, x.fails(i, v, 120), m.fails(i, v, 120));
                checks.due("points " + i, x.points(i, v, 120), m.points(i, v, 120));
                checks.due("weakest " + i, x.weakest(i, v, 120), m.weakest(i, v, 120));
            }
            checks.due("due " + i, x.due(i), m.due(i));
            checks.due("heirOn " + i, x.heirOn(59, 120, i, 1), m.heirOn(59, 120, i, 1));
            checks.due("nationOn " + i, x.nationOn(i, 70, 120), m.nationOn(i, 70, 120));
            checks.due("deadOn " + i, x.deadOn(i, 70, 120), m.deadOn(i, 70, 120));
            checks.due("rateOn " + i, x.rateOn(i % 4, i), m.rateOn(i % 4, i));
        }
        for (int i = 0; i < 60; i += 13) {
            checks.due("lacks " + i, x.lacks(i, 0, 120), m.lacks(i, 0, 120));
        }
        for (int i = 0; i < 30; i++) {
            checks.due("worth " + i, x.lost(i, 2), m.lost(i, 2));
            checks.due("span " + i, x.lost(i, 5), m.lost(i, 5));
        }
        checks.due("beside", x.beside(0, 1), m.beside(0, 1));
        checks.due("lots", x.lots(), m.lots());
        for (int n = 1; n < 4; n++) {
            checks.due("tests " + n, x.tests(n), m.tests(n));
            for (int i = 0; i < 4; i++) {
                checks.due("test " + i, x.test(i), m.test(i));
            }
        }
    }

    private static void decide() {
        for (int i = 0; i < 60; i++) {
            int due = m.due(i);
            int b = i % 5 == 0 ? due / 2 : due;
            checks.due("vote " + i, x.vote(i, due, b), m.vote(i, due, b));
            checks.due("lot " + i, x.lot(i, i % 3, b), m.lot(i, i % 3, b));
            checks.due("award " + i, x.about(i, 9), m.about(i, 9));
            checks.due("again " + i, x.again(i), m.again(i));
            checks.due("spread " + i, x.spread(i), m.spread(i));
        }
    }

    private static void pay() {
        for (int i = 0; i < 4; i++) {
            checks.due("fund " + i, x.fund(7001), m.fund(7001));
            checks.due("wave " + i, x.wave(), m.wave());
            checks.due("fund again " + i, x.fund(501), m.fund(501));
            checks.due("last " + i, x.last(), m.last());
        }
        for (int i = 0; i < 60; i++) {
            checks.due("purse " + i, x.purse(i), m.purse(i));
            checks.due("paid " + i, x.about(i, 10), m.about(i, 10));
        }
        checks.holds("much was paid", x.count(6) - x.count(7) > 20000);
    }

    /** Numbers at and beyond all edges, in every call that changes nothing that is asked later. */
    private static void askOdd() {
        for (int a : ODD) {
            for (int b : ODD) {
                checks.due("heirOn", x.heirOn(59, a, b, 0), m.heirOn(59, a, b, 0));
                checks.due("heirOn of", x.heirOn(a, 120, 0, b), m.heirOn(a, 120, 0, b));
                checks.due("nationOn", x.nationOn(59, a, b), m.nationOn(59, a, b));
                checks.due("deadOn", x.deadOn(a, b, 120), m.deadOn(a, b, 120));
                checks.due("rateOn", x.rateOn(a, b), m.rateOn(a, b));
                checks.due("rule", x.rule(a, b), m.rule(a, b));
                checks.due("lost", x.lost(a, b), m.lost(a, b));
                checks.due("about", x.about(a, b), m.about(a, b));
                checks.due("forged", x.forged(a, b), m.forged(a, b));
                checks.due("fails", x.fails(a, 0, b), m.fails(a, 0, b));
                checks.due("points", x.points(a, 0, b), m.points(a, 0, b));
                checks.due("weakest", x.weakest(a, b, 120), m.weakest(a, b, 120));
                checks.due("like", x.like(a, b), m.like(a, b));
                checks.due("vote", x.vote(a, b, b), m.vote(a, b, b));
                checks.due("lot", x.lot(a, b, b), m.lot(a, b, b));
                checks.due("beside", x.beside(a, b), m.beside(a, b));
            }
            checks.due("count", x.count(a), m.count(a));
            checks.due("test", x.test(a), m.test(a));
            checks.due("purse", x.purse(a), m.purse(a));
            checks.due("fault", x.fault(a), m.fault(a));
            checks.due("end", x.end(a), m.end(a));
            checks.due("due", x.due(a), m.due(a));
            checks.due("again", x.again(a), m.again(a));
            checks.due("withdraw", x.withdraw(a), m.withdraw(a));
        }
    }
}
