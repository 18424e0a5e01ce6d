/** Where there is nothing: nobody, nothing lost, no CLAIM, an empty TAPE, a text without a clause, no coin. */
public final class EmptyTest {
    private static final Checks checks = new Checks();
    private static final int NONE = TreatyClaims.NONE;
    private static final int RANGE = TreatyClaims.RANGE;
    private static final int NO_SUCH = -9;

    public static void main(String[] args) {
        nobody();
        nothingLost();
        noClaim();
        noPaper();
        emptyTape();
        blankTape();
        emptyText();
        emptyTextOverAnother();
        noUmpire();
        noWorth();
        noAward();
        noCoin();
        noHeir();
        nothingOpen();
        checks.close("EmptyTest");
    }

    /** Promise 1: "nobody". Each call that asks for a person has none. */
    private static void nobody() {
        TreatyClaims x = new TreatyClaims();
        for (int p : new int[] {Integer.MIN_VALUE, -1, 0, 1, Integer.MAX_VALUE}) {
            checks.due("nation of " + p, x.nation(p, 0, 0), RANGE);
            checks.due("dead " + p, x.dead(p, 0), RANGE);
            checks.due("heir of " + p, x.heir(p, 0, 1), RANGE);
            checks.due("nationOn of " + p, x.nationOn(p, 0, 0), RANGE);
            checks.due("deadOn of " + p, x.deadOn(p, 0, 0), RANGE);
            checks.due("heirOn of " + p, x.heirOn(p, 0, 0, 0), NONE);
            checks.due("umpire " + p, x.umpire(p, true), RANGE);
            checks.due("purse of " + p, x.purse(p), RANGE);
        }
        checks.due("count(1)", x.count(1), 0);
        checks.due("count(2)", x.count(2), 0);
        checks.due("the first who comes", x.person(), 0);
        checks.due("an heir needs two", x.heir(0, 1, 1), RANGE);
    }

    /** Promise 1: "nothing lost". */
    private static void nothingLost() {
        TreatyClaims x = Checks.withPersons(1);
        for (int what = -1; what < 7; what++) {
            checks.due("lost(0, " + what + ")", x.lost(0, what), NONE);
        }
        checks.due("a claim for nothing", Checks.claim(x, 0, 0, 0, 1, "ship"), RANGE);
        checks.due("count(3)", x.count(3), 0);
        checks.due("the first that is lost", x.thing(0, 0, NONE), 0);
    }

    private static void noClaim() {
        TreatyClaims x = Checks.withPersons(1);
        x.thing(0, 0, 5);
        checks.due("mark", x.mark(0, 0), RANGE);
        checks.due("paper", Checks.paper(x, 0, NONE, 0, "deed"), RANGE);
        checks.due("fails", x.fails(0, 0, 0), RANGE);
        checks.due("points", x.points(0, 0, 0), RANGE);
        checks.due("lacks", x.lacks(0, 0, 0), RANGE);
        checks.due("weakest", x.weakest(0, 0, 0), RANGE);
        checks.due("beside", x.beside(0, 1), 0);
        checks.due("withdraw", x.withdraw(0), RANGE);
        checks.due("about", x.about(0, 0), NO_SUCH);
        checks.due("due", x.due(0), RANGE);
        checks.due("vote", x.vote(0, 0, 0), RANGE);
        checks.due("lot", x.lot(0, 0, 0), RANGE);
        checks.due("like", x.like(0, 1), RANGE);
        checks.due("tests", x.tests(3), 0);
        checks.due("test", x.test(0), NONE);
        checks.due("spread", x.spread(0), RANGE);
        checks.due("again", x.again(0), RANGE);
        checks.due("count(4)", x.count(4), 0);
        checks.due("count(8)", x.count(8), 0);
    }

    private static void noPaper() {
        TreatyClaims x = Checks.withPersons(1);
        x.thing(0, 0, 5);
        Checks.rules(x, 0, "weigh deed 10;");
        Checks.claim(x, 0, 0, 0, 5, "ship");
        checks.due("forged", x.forged(0, 0), RANGE);
        checks.due("points", x.points(0, 0, 0), 0);
        checks.due("fails", x.fails(0, 0, 0), 8);
        checks.due("lacks", x.lacks(0, 0, 0), 1);
        checks.due("weakest", x.weakest(0, 0, 0), NONE);
        checks.due("count(5)", x.count(5), 0);
    }

    /** Promises 3, 15, 19, 20, 23, 25, on a TAPE of no byte, which each of them leaves so. */
    private static void emptyTape() {
        TreatyClaims x = Checks.withPersons(1);
        x.thing(0, 0, 5);
        Checks.claim(x, 0, 0, 0, 5, "ship");
        checks.due("end(0)", x.end(0), 0);
        checks.due("end(1)", x.end(1), NONE);
        checks.due("rules", x.rules(0), 0);
        checks.due("need", x.need(0), NONE);
        checks.due("kind", x.kind(0), NONE);
        checks.due("claim", x.claim(0, 0, 0, 0, 0, 1), NONE);
        checks.due("paper", x.paper(0, NONE, 0), NONE);
        checks.due("need of no VERSION", x.need(4), RANGE);
        checks.due("kind of no VERSION", x.kind(4), RANGE);
        checks.due("rules of no VERSION", x.rules(4), RANGE);
        checks.due("claims", x.count(4), 1);
        checks.due("papers", x.count(5), 0);
        checks.due("bytes", x.count(10), 0);
        checks.due("feed behind that", x.feed(0, 0, 0, 0, 0), 20);
    }

    /** A TAPE of blanks alone has no TOKEN. */
    private static void blankTape() {
        TreatyClaims x = Checks.withPersons(1);
        x.thing(0, 0, 5);
        Checks.claim(x, 0, 0, 0, 5, "ship");
        for (String blanks : new String[] {" ", "\n", " \n\n  \n"}) {
            checks.due("rules", Checks.rules(x, 0, blanks), 0);
            checks.due("fault(0)", x.fault(0), 0);
            checks.due("need", Checks.need(x, 0, blanks), NONE);
            checks.due("kind", Checks.kind(x, 0, blanks), NONE);
            checks.due("claim", Checks.claim(x, 0, 0, 0, 1, blanks), NONE);
            checks.due("paper", Checks.paper(x, 0, NONE, 0, blanks), NONE);
        }
    }

    /** "What isn't told: ..": a text without a clause tells nothing, and is no FAULT. */
    private static void emptyText() {
        TreatyClaims x = new TreatyClaims();
        int[] untold = {1999, 0, 1999, 2, 0, 0, 1, NONE, 0, 0, 100, 0, 0, 0};
        for (int v = 0; v < 4; v++) {
            checks.due("rules(" + v + ")", x.rules(v), 0);
            checks.due("fault(0)", x.fault(0), 0);
            checks.due("fault(1)", x.fault(1), NONE);
            for (int what = 0; what < untold.length; what++) {
                checks.due("rule(" + v + ", " + what + ")", x.rule(v, what), untold[what]);
            }
            for (int i = 0; i < 4; i++) {
                checks.due("rule(" + v + ", " + (20 + i) + ")", x.rule(v, 20 + i), i);
            }
            checks.due("rule(" + v + ", 30)", x.rule(v, 30), NO_SUCH);
            checks.due("need by " + v, Checks.need(x, v, "ship"), 10);
            checks.due("kind by " + v, Checks.kind(x, v, "ship"), NONE);
        }
    }

    /** A text without a clause takes the place of one with many. */
    private static void emptyTextOverAnother() {
        TreatyClaims x = new TreatyClaims();
        Checks.rules(x, 2, "bar 1;days 2 3;chain loss;rate 4 filing;split least;cap 5;test 6;late 7;part 8;order insurer;"
            + "weigh deed 9;need ship 11;must ship oath;either ship bill bond;");
        checks.due("KINDS ahead of it", x.rule(2, 11), 4);
        checks.due("rules(2)", Checks.rules(x, 2, ""), 0);
        int[] untold = {1999, 0, 1999, 2, 0, 0, 1, NONE, 0, 0, 100, 0, 0, 0};
        for (int what = 0; what < untold.length; what++) {
            checks.due("rule(2, " + what + ")", x.rule(2, what), untold[what]);
        }
        for (int i = 0; i < 4; i++) {
            checks.due("rule(2, " + (20 + i) + ")", x.rule(2, 20 + i), i);
        }
        checks.due("rule(2, 30)", x.rule(2, 30), NO_SUCH);
        checks.due("need", Checks.need(x, 2, "ship"), 10);
        checks.due("kind", Checks.kind(x, 2, "deed"), NONE);
    }

    private static void noUmpire() {
        TreatyClaims x = Checks.withPersons(2);
        x.nation(1, 2, 0);
        checks.due("nobody is on the list", x.lots(), 0);
        Checks.rules(x, 0, "need ship 0;split umpire;");
        x.thing(0, 0, 5);
        Checks.claim(x, 0, 0, 0, 5, "ship");
        x.vote(0, 1, 2);
        for (int number : new int[] {Integer.MIN_VALUE, -1, 0, 1, Integer.MAX_VALUE}) {
            checks.due("lot " + number, x.lot(0, number, 1), RANGE);
        }
        checks.due("it is SPLIT still", x.about(0, 7), 1);
        x.umpire(1, true);
        checks.due("one who came on it", x.lot(0, 0, 1), 1);
    }

    /** "Without any: 0, 0 .. 0"; so nothing is DUE, and the VOTES can be 0 alone. */
    private static void noWorth() {
        TreatyClaims x = Checks.withPersons(1);
        Checks.rules(x, 0, "need ship 0;");
        x.thing(0, 255, NONE);
        checks.due("WORTH", x.lost(0, 2), 0);
        checks.due("told", x.lost(0, 3), 0);
        checks.due("SPAN", x.lost(0, 4), 0);
        checks.due("SPAN's end", x.lost(0, 5), 0);
        Checks.claim(x, 0, 0, 0, 5, "ship");
        Checks.claim(x, 0, 0, 0, 7, "ship");
        checks.due("it is PROVEN", x.fails(0, 0, 0), 0);
        checks.due("DUE", x.due(0), 0);
        checks.due("DUE of the other", x.due(1), 0);
        checks.due("a VOTE of 1", x.vote(0, 1, 0), RANGE);
        checks.due("VOTES of 0", x.vote(0, 0, 0), 2);
        checks.due("spread of it", x.spread(0), 1);
        checks.due("AWARD", x.about(1, 9), 0);
    }

    /** Coin, but no AWARD that could have it: nothing is paid. */
    private static void noAward() {
        TreatyClaims x = Checks.withPersons(1);
        x.fund(77);
        checks.due("wave()", x.wave(), 0);
        checks.due("last()", x.last(), 0);
        x.thing(0, 0, 5);
        Checks.claim(x, 0, 0, 0, 5, "ship");
        x.vote(0, 0, 0);
        checks.due("wave() with an AWARD of 0", x.wave(), 0);
        checks.due("last() with an AWARD of 0", x.last(), 0);
        checks.due("coin", x.count(7), 77);
        checks.due("FUND", x.count(6), 77);
        checks.due("purse", x.purse(0), 0);
    }

    /** An AWARD, but no coin. */
    private static void noCoin() {
        TreatyClaims x = Checks.withPersons(1);
        Checks.rules(x, 0, "need ship 0;");
        x.thing(0, 0, 5);
        Checks.claim(x, 0, 0, 0, 5, "ship");
        x.vote(0, 5, 5);
        checks.due("wave()", x.wave(), 0);
        checks.due("last()", x.last(), 0);
        checks.due("paid", x.about(0, 10), 0);
        checks.due("coin", x.count(7), 0);
        x.fund(5);
        checks.due("wave() then", x.wave(), 5);
        checks.due("coin is gone", x.count(7), 0);
        checks.due("last() without coin", x.last(), 0);
    }

    /** "without HEIRS it stays with the one who is DEAD". */
    private static void noHeir() {
        TreatyClaims x = Checks.withPersons(2);
        Checks.rules(x, 0, "need ship 0;");
        x.thing(0, 0, 5);
        Checks.claim(x, 0, 0, 0, 5, "ship");
        x.vote(0, 5, 5);
        x.dead(0, 0);
        checks.due("heirOn", x.heirOn(0, 0, 0, 0), NONE);
        x.fund(5);
        checks.due("wave()", x.wave(), 5);
        checks.due("purse", x.purse(0), 5);
        checks.due("purse of the other", x.purse(1), 0);
    }

    /** Promise 40: "0: none is OPEN". */
    private static void nothingOpen() {
        TreatyClaims x = Checks.withPersons(1);
        x.thing(0, 0, 5);
        for (int c = 0; c < 2; c++) {
            Checks.claim(x, 0, 0, 0, 5, "ship");
        }
        checks.due("tests(3) of two", x.tests(3), 2);
        x.withdraw(0);
        x.vote(1, 0, 0);
        for (int n = 1; n <= 3; n++) {
            checks.due("tests(" + n + ")", x.tests(n), 0);
            checks.due("test(0)", x.test(0), NONE);
        }
        checks.due("spread with none OPEN", x.spread(1), 0);
        TreatyClaims y = Checks.withPersons(1);
        y.thing(0, 0, 5);
        for (String word : new String[] {"ship", "boat", "bond"}) {
            Checks.claim(y, 0, 0, 0, 5, word);
        }
        checks.due("tests(3) of three", y.tests(3), 3);
        checks.due("test(2)", y.test(2), 2);
        for (int c = 0; c < 3; c++) {
            y.withdraw(c);
        }
        checks.due("tests(3) of none", y.tests(3), 0);
        for (int i = 0; i < 3; i++) {
            checks.due("nothing is left of the row: test(" + i + ")", y.test(i), NONE);
        }
    }
}
