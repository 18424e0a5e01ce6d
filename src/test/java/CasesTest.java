/** Promises 39 to 42: like cases, test cases, spreading a decision. */
public final class CasesTest {
    private static final Checks checks = new Checks();
    private static final int NONE = TreatyClaims.NONE;
    private static final int RANGE = TreatyClaims.RANGE;
    private static final int STATE = TreatyClaims.STATE;

    public static void main(String[] args) {
        like();
        testsWrong();
        testsChoose();
        testsOfOpenOnes();
        testsOfSixty();
        spread();
        spreadOfNothing();
        spreadAndCap();
        checks.close("CasesTest");
    }

    private static TreatyClaims marked(String rules, int... marks) {
        TreatyClaims x = Checks.withPersons(2);
        x.thing(0, 0, 100000);
        Checks.rules(x, 0, "need ship 0;need house 0;" + rules);
        for (int i = 0; i < marks.length; i++) {
            Checks.claim(x, 0, 0, 0, 100, "ship");
            x.mark(i, marks[i]);
        }
        return x;
    }

    private static void like() {
        TreatyClaims x = marked("test 2;", 0, 3, 7, 0);
        Checks.claim(x, 0, 0, 0, 100, "house");
        checks.due("two unlike", x.like(0, 1), 1);
        checks.due("three unlike", x.like(0, 2), 0);
        checks.due("one unlike", x.like(2, 1), 1);
        checks.due("alike", x.like(3, 0), 1);
        checks.due("of another W", x.like(0, 4), 0);
        checks.due("with itself", x.like(1, 1), RANGE);
        checks.due("with none", x.like(0, 5), RANGE);
        checks.due("of none", x.like(5, 0), RANGE);
        checks.due("of -1", x.like(-1, 0), RANGE);
        x.withdraw(3);
        checks.due("whatever their states", x.like(3, 0), 1);
        x.force(1);
        checks.due("by the version in force, one unlike", x.like(1, 2), 0);
        checks.due("by the version in force, alike", x.like(0, 3), 1);
    }

    private static void tests(String when, TreatyClaims x, int n, int cases, int... row) {
        checks.due(when + ": tests(" + n + ")", x.tests(n), cases);
        for (int i = 0; i < row.length; i++) {
            checks.due(when + ": test(" + i + ")", x.test(i), row[i]);
        }
        checks.due(when + ": test(" + row.length + ")", x.test(row.length), NONE);
        checks.due(when + ": test(-1)", x.test(-1), NONE);
    }

    private static void testsWrong() {
        TreatyClaims x = new TreatyClaims();
        checks.due("tests(0)", x.tests(0), RANGE);
        checks.due("tests(4)", x.tests(4), RANGE);
        checks.due("tests(-1)", x.tests(-1), RANGE);
        tests("none", x, 3, 0);
    }

    private static void testsChoose() {
        TreatyClaims chain = marked("test 1;", 0, 1, 3, 7, 15, 31, 63);
        tests("a chain of seven", chain, 1, 3, 1);
        tests("a chain of seven", chain, 2, 6, 1, 4);
        tests("a chain of seven", chain, 3, 7, 0, 2, 5);
        tests("each alone", marked("", 0, 1, 2, 3), 3, 3, 0, 1, 2);
        tests("all alike", marked("", 5, 5, 5), 3, 3, 0);
        tests("two lots of two", marked("", 1, 2, 2, 1), 3, 4, 0, 1);
        tests("fewest ahead of the least row", marked("", 3, 9, 9), 2, 3, 0, 1);
        tests("the better one, not the first", marked("", 1, 2, 4, 4), 1, 2, 2);
        tests("the better pair", marked("", 1, 2, 4, 4, 8, 8), 2, 4, 2, 4);
        tests("the better three", marked("", 1, 2, 4, 4, 8, 8, 2), 3, 6, 1, 2, 4);
        tests("one alone", marked("", 1), 3, 1, 0);
    }

    private static void testsOfOpenOnes() {
        TreatyClaims x = marked("split umpire;", 1, 1, 1, 2, 2, 4);
        tests("all open", x, 1, 3, 0);
        x.withdraw(0);
        x.vote(1, 5, 6);
        tests("two of them not", x, 1, 2, 3);
        tests("two of them not", x, 2, 3, 2, 3);
        x.vote(3, 5, 5);
        checks.due("the latest row stays", x.test(1), 3);
        tests("three of them not", x, 3, 3, 2, 4, 5);
        checks.due("RANGE changes nothing", x.tests(9), RANGE);
        checks.due("the row of the latest that was", x.test(2), 5);
        x.vote(2, 5, 5);
        x.vote(4, 5, 5);
        x.vote(5, 5, 5);
        tests("none open", x, 3, 0);
    }

    private static void testsOfSixty() {
        TreatyClaims x = Checks.withPersons(1);
        x.thing(0, 0, 5);
        Checks.rules(x, 0, "test 1;");
        for (int i = 0; i < 60; i++) {
            Checks.claim(x, 0, 0, 0, 1, "ship");
            x.mark(i, i < 57 ? i * 8 : 960 + i);
        }
        Model m = new Model();
        m.person();
        m.thing(0, 0, 5);
        m.versions[0].test = 1;
        for (int i = 0; i < 60; i++) {
            m.tape = "ship";
            m.claim(0, 0, 0, 0, 0, 1);
            m.mark(i, i < 57 ? i * 8 : 960 + i);
        }
        for (int n = 1; n <= 3; n++) {
            tests("sixty", x, n, m.tests(n), m.chosen.stream().mapToInt(c -> c).toArray());
        }
    }

    private static void spread() {
        TreatyClaims x = marked("test 1;", 0, 1, 2, 3, 0, 0);
        checks.due("spread of none", x.spread(6), RANGE);
        checks.due("spread of -1", x.spread(-1), RANGE);
        checks.due("of an open one", x.spread(0), STATE);
        x.withdraw(4);
        x.vote(5, 7, 7);
        x.vote(0, 70, 70);
        x.pass(3);
        checks.due("two are open and like it", x.spread(0), 2);
        checks.due("1", x.about(1, 8), 70);
        checks.due("2", x.about(2, 8), 70);
        checks.due("decided today", x.about(2, 11), 3);
        checks.due("3 isn't like it", x.about(3, 7), 0);
        checks.due("4 is withdrawn", x.about(4, 7), 3);
        checks.due("5 was decided already", x.about(5, 8), 7);
        checks.due("once more", x.spread(0), 0);
        checks.due("from one to the next", x.spread(1), 1);
        checks.due("3 then", x.about(3, 8), 70);
    }

    private static void spreadOfNothing() {
        TreatyClaims x = marked("weigh a 1;need boat 1;", 0);
        for (int i = 1; i < 4; i++) {
            Checks.claim(x, 0, 0, 0, 90 + i, "boat");
        }
        Checks.paper(x, 2, NONE, 0, "a");
        x.vote(1, 0, 0);
        checks.due("the due of that one is 0", x.spread(1), 2);
        checks.due("so is the sum of one that is due much", x.about(2, 8), 0);
        checks.due("it is decided", x.about(2, 7), 2);
        TreatyClaims y = marked("weigh a 1;need boat 1;", 0);
        for (int i = 1; i < 4; i++) {
            Checks.claim(y, 0, 0, 0, 90 + i, "boat");
        }
        Checks.paper(y, 1, NONE, 0, "a");
        Checks.paper(y, 2, NONE, 0, "a");
        y.vote(1, 45, 45);
        checks.due("in its measure", y.spread(1), 2);
        checks.due("cut", y.about(2, 8), 92 * 45 / 91);
        checks.due("nothing where nothing is due", y.about(3, 8), 0);
        TreatyClaims one = Checks.withPersons(1);
        Checks.rules(one, 0, "need ship 0;");
        one.thing(0, 0, 1);
        one.thing(0, 0, 500);
        Checks.claim(one, 0, 0, 0, 5, "ship");
        Checks.claim(one, 0, 1, 0, 400, "ship");
        one.vote(0, 1, 1);
        checks.due("the due of that one is 1", one.spread(0), 1);
        checks.due("all that is due", one.about(1, 8), 400);
        TreatyClaims z = marked("", 0, 0);
        z.vote(0, 50, 50);
        Checks.claim(z, 1, 0, 0, 999999, "house");
        checks.due("the dues are less now", z.due(1), 10);
        checks.due("by the due as kept", z.spread(0), 1);
        checks.due("10 * 50 / 100", z.about(1, 8), 5);
    }

    private static void spreadAndCap() {
        TreatyClaims x = Checks.withPersons(1);
        x.thing(0, 0, 100000);
        Checks.rules(x, 0, "need ship 0;cap 2;rate 36 loss;");
        for (int i = 0; i < 4; i++) {
            Checks.claim(x, 0, 0, 0, 800, "ship");
        }
        x.pass(100);
        x.vote(3, 600, 600);
        checks.due("three", x.spread(3), 3);
        checks.due("the first, with interest", x.about(0, 9), 660);
        checks.due("the second", x.about(1, 9), 660);
        checks.due("the third, under the cap", x.about(2, 9), 20);
        checks.due("its sum", x.about(2, 8), 600);
    }
}
