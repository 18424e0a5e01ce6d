/** Promises 44 to 48: the fund, waves, the last payment, purses and heirs, counts. */
public final class FundTest {
    private static final Checks checks = new Checks();
    private static final int NONE = TreatyClaims.NONE;
    private static final int RANGE = TreatyClaims.RANGE;
    private static final int STATE = TreatyClaims.STATE;

    public static void main(String[] args) {
        fund();
        waves();
        wavesBesideOpenOnes();
        waveWithoutCoin();
        last();
        lastByRest();
        paidStaysPaid();
        heirs();
        heirsOfHeirs();
        heirsOfTwo();
        heirsInARing();
        counts();
        checks.close("FundTest");
    }

    /** One thing a person, who has a claim on it that is decided with the sum told. */
    private static TreatyClaims awarded(String rules, int... sums) {
        TreatyClaims x = Checks.withPersons(sums.length);
        Checks.rules(x, 0, "need ship 0;" + rules);
        for (int i = 0; i < sums.length; i++) {
            x.thing(0, 0, 100000);
            Checks.claim(x, i, i, 0, 100000, "ship");
            x.vote(i, sums[i], sums[i]);
        }
        return x;
    }

    private static void paid(String when, TreatyClaims x, int... want) {
        for (int c = 0; c < want.length; c++) {
            checks.due(when + ": paid on " + c, x.about(c, 10), want[c]);
        }
    }

    private static void fund() {
        TreatyClaims x = new TreatyClaims();
        checks.due("fund(0)", x.fund(0), RANGE);
        checks.due("fund(-1)", x.fund(-1), RANGE);
        checks.due("fund(10000000)", x.fund(10000000), RANGE);
        checks.due("fund(1)", x.fund(1), 1);
        for (int i = 1; i <= 99; i++) {
            checks.due("fund " + i, x.fund(9999999), 9999999 * i + 1);
        }
        checks.due("fund(9999999)", x.fund(9999999), 999999901);
        checks.due("beyond 999999999", x.fund(99), RANGE);
        checks.due("up to it", x.fund(98), 999999999);
        checks.due("one more", x.fund(1), RANGE);
        checks.due("count(6)", x.count(6), 999999999);
        checks.due("count(7)", x.count(7), 999999999);
    }

    private static void waves() {
        TreatyClaims x = awarded("part 25;", 1000, 399, 0);
        checks.due("no coin", x.wave(), 0);
        x.fund(140);
        checks.due("FUND over AWARDS: 100 thousandths", x.wave(), 139);
        paid("a tenth", x, 100, 39, 0);
        checks.due("coin", x.count(7), 1);
        checks.due("once more", x.wave(), 0);
        x.fund(5000);
        checks.due("no more than part", x.wave(), 150 + 60);
        paid("a fourth", x, 250, 99, 0);
        Checks.rules(x, 0, "part 100;");
        checks.due("all of it", x.wave(), 750 + 300);
        paid("all", x, 1000, 399, 0);
        checks.due("coin at last", x.count(7), 5140 - 1399);
        checks.due("purse 0", x.purse(0), 1000);
        checks.due("purse 1", x.purse(1), 399);
        checks.due("purse -1", x.purse(-1), RANGE);
        checks.due("purse 3", x.purse(3), RANGE);
    }

    private static void wavesBesideOpenOnes() {
        TreatyClaims x = awarded("split umpire;", 1000, 500);
        Checks.claim(x, 0, 0, 1, 300, "ship");
        Checks.claim(x, 0, 0, 0, 200, "ship");
        x.thing(0, 0, 500);
        Checks.claim(x, 1, 2, 0, 500, "ship");
        checks.due("one is split", x.vote(4, 5, 6), 1);
        x.fund(1000);
        checks.due("1000 over 1500 and 1000: 400 thousandths", x.wave(), 600);
        x.withdraw(3);
        checks.due("1000 over 1500 and 800: 434 thousandths", x.wave(), 34 + 17);
        TreatyClaims y = Checks.withPersons(1);
        y.thing(0, 0, 5);
        Checks.claim(y, 0, 0, 0, 5, "ship");
        y.fund(100);
        checks.due("no award at all", y.wave(), 0);
        y.withdraw(0);
        checks.due("nothing at all", y.wave(), 0);
        TreatyClaims z = Checks.withPersons(1);
        Checks.rules(z, 0, "need ship 0;");
        z.thing(0, 0, 1000);
        Checks.claim(z, 0, 0, 0, 300, "ship");
        Checks.claim(z, 0, 0, 0, 100, "ship");
        z.vote(1, 100, 100);
        z.fund(100);
        checks.due("beside the first, which is open", z.wave(), 25);
        TreatyClaims one = awarded("", 1);
        one.fund(5);
        checks.due("one", one.wave(), 1);
    }

    /** Coin that was paid on a claim whose award is none now is wanting later. */
    private static void waveWithoutCoin() {
        TreatyClaims x = awarded("late 9;", 1000, 1000, 1000);
        x.fund(3000);
        checks.due("all", x.wave(), 3000);
        x.pass(1);
        Checks.rules(x, 0, "need ship 1;late 9;");
        checks.due("again", x.again(0), 1);
        checks.due("again 1", x.again(1), 1);
        Checks.rules(x, 0, "need ship 0;late 9;");
        x.withdraw(0);
        x.vote(1, 1500, 1500);
        x.fund(100);
        checks.due("as far as there is coin", x.wave(), 100);
        paid("then", x, 1000, 1100, 1000);
        checks.due("coin", x.count(7), 0);
        checks.due("nothing more", x.wave(), 0);
    }

    private static void last() {
        TreatyClaims x = awarded("", 100, 100, 100, 0);
        Checks.claim(x, 0, 0, 0, 5, "ship");
        x.fund(200);
        checks.due("one is open", x.last(), STATE);
        Checks.rules(x, 0, "need ship 0;split umpire;order cargo;");
        Checks.claim(x, 0, 0, 1, 5, "ship");
        x.vote(5, 0, 1);
        x.withdraw(4);
        checks.due("one is split", x.last(), STATE);
        x.nation(1, 2, 0);
        x.umpire(1, true);
        x.lot(5, 0, 0);
        checks.due("none is", x.last(), 200);
        paid("in measure, the rest to the lowest numbers", x, 67, 67, 66, 0, 0, 0);
        checks.due("coin", x.count(7), 0);
        checks.due("no coin", x.last(), 0);
        x.fund(50);
        checks.due("what each still wants", x.last(), 50);
        paid("16.5, 16.5, 17 more: the one over to the lower of alike rests", x, 84, 83, 83);
        x.fund(1000);
        checks.due("all they want", x.last(), 50);
        checks.due("coin that is left", x.count(7), 950);
        paid("all", x, 100, 100, 100, 0);
        checks.due("nobody wants", x.last(), 0);
    }

    private static void lastByRest() {
        TreatyClaims x = awarded("", 10, 33, 57);
        x.fund(7);
        checks.due("last()", x.last(), 7);
        paid("0.7, 2.31, 3.99", x, 1, 2, 4);
        TreatyClaims y = awarded("", 1, 1, 1, 1);
        y.fund(2);
        checks.due("last()", y.last(), 2);
        paid("alike rests", y, 1, 1, 0, 0);
        TreatyClaims z = awarded("rate 99 loss;", 100000, 100000);
        for (int i = 0; i < 3; i++) {
            z.fund(49999);
            z.last();
        }
        paid("what is paid rises evenly", z, 74999, 74998);
    }

    private static void paidStaysPaid() {
        TreatyClaims x = awarded("late 9;weigh a 5;", 1000, 1000);
        x.fund(2000);
        x.wave();
        Checks.rules(x, 0, "need ship 1;late 9;");
        x.again(0);
        checks.due("award", x.about(0, 9), 0);
        checks.due("paid", x.about(0, 10), 1000);
        checks.due("sum of awards", x.count(8), 1000);
        checks.due("open", x.count(20), 1);
        Checks.rules(x, 0, "need ship 0;late 9;");
        x.vote(0, 400, 400);
        x.fund(2000);
        checks.due("it wants nothing", x.wave(), 0);
        checks.due("nor at last", x.last(), 0);
        checks.due("paid still", x.about(0, 10), 1000);
        checks.due("purse", x.purse(0), 1000);
    }

    private static void heirs() {
        TreatyClaims x = awarded("", 1000, 0, 0, 0);
        x.fund(1000);
        x.dead(0, 5);
        x.heir(0, 2, 3);
        x.heir(0, 1, 1);
        x.heir(0, 3, 2);
        Checks.rules(x, 0, "part 10;");
        checks.due("a first wave", x.wave(), 100);
        checks.due("alive today", x.purse(0), 100);
        x.pass(5);
        Checks.rules(x, 0, "part 20;");
        checks.due("a second wave", x.wave(), 100);
        checks.due("it keeps what it had", x.purse(0), 100);
        checks.due("3 parts of 6, and the one over, as told first", x.purse(2), 51);
        checks.due("1 part of 6", x.purse(1), 16);
        checks.due("2 parts of 6", x.purse(3), 33);
        TreatyClaims y = awarded("", 100, 0);
        y.dead(0, 0);
        y.fund(100);
        y.wave();
        checks.due("without heirs it stays", y.purse(0), 100);
        TreatyClaims z = awarded("", 7, 0, 0, 0);
        z.dead(0, 0);
        z.heir(0, 3, 1);
        z.heir(0, 1, 1);
        z.heir(0, 2, 1);
        z.heir(0, 1, 2);
        z.fund(7);
        z.wave();
        checks.due("1 of 4 parts of 7, and one over", z.purse(3), 2);
        checks.due("2 of 4 parts, and one over", z.purse(1), 4);
        checks.due("1 of 4 parts", z.purse(2), 1);
    }

    private static void heirsOfHeirs() {
        TreatyClaims x = awarded("", 1000, 0, 0, 0, 0, 0);
        x.fund(1000);
        for (int p = 0; p < 5; p++) {
            x.dead(p, 0);
            x.heir(p, p + 1, 1);
        }
        x.wave();
        checks.due("three times one behind the other", x.purse(3), 1000);
        checks.due("no further", x.purse(4), 0);
        TreatyClaims y = awarded("", 101, 0, 0, 0, 0, 0);
        y.dead(0, 0);
        y.heir(0, 1, 1);
        y.heir(0, 2, 1);
        y.dead(1, 0);
        y.heir(1, 3, 1);
        y.heir(1, 2, 2);
        y.dead(2, 0);
        y.fund(101);
        y.wave();
        checks.due("51 to the first, who is dead", y.purse(1), 0);
        checks.due("a third of it", y.purse(3), 17);
        checks.due("two thirds, and 50, with one who is dead without heirs", y.purse(2), 84);
    }

    /** Two who are dead, the first with many heirs, the next with few: each by their own. */
    private static void heirsOfTwo() {
        TreatyClaims x = awarded("", 600, 600, 0, 0, 0);
        x.fund(1200);
        x.dead(0, 0);
        x.dead(1, 0);
        for (int q = 1; q < 5; q++) {
            x.heir(0, q, q);
        }
        x.heir(1, 2, 1);
        x.wave();
        checks.due("60 of 600 through 1, and 600, and 120", x.purse(2), 60 + 600 + 120);
        checks.due("180", x.purse(3), 180);
        checks.due("240", x.purse(4), 240);
        checks.due("0 and 1", x.purse(0) + x.purse(1), 0);
        checks.due("coin", x.count(7), 0);
        TreatyClaims y = awarded("", 600, 5, 0, 0, 0);
        y.fund(605);
        y.dead(0, 0);
        y.dead(1, 0);
        for (int q = 2; q < 5; q++) {
            y.heir(0, q, 1);
        }
        y.heir(1, 2, 1);
        y.heir(1, 3, 1);
        y.wave();
        checks.due("200 and 3", y.purse(2), 203);
        checks.due("200 and 2", y.purse(3), 202);
        checks.due("200", y.purse(4), 200);
    }

    private static void heirsInARing() {
        TreatyClaims x = awarded("", 1000, 0);
        x.fund(1000);
        x.dead(0, 0);
        x.dead(1, 0);
        x.heir(0, 1, 1);
        x.heir(1, 0, 1);
        x.wave();
        checks.due("there and back and there", x.purse(1), 1000);
        checks.due("and not back", x.purse(0), 0);
    }

    private static void counts() {
        TreatyClaims x = awarded("split umpire;", 1000, 500);
        x.pass(4);
        x.dead(1, 3);
        Checks.claim(x, 0, 0, 0, 5, "ship");
        Checks.claim(x, 0, 0, 0, 5, "ship");
        Checks.claim(x, 0, 0, 0, 5, "ship");
        x.vote(2, 1, 2);
        x.withdraw(3);
        Checks.paper(x, 0, NONE, 0, "a");
        x.fund(900);
        x.wave();
        x.force(0);
        Checks.write(x, "bytes");
        int[] want = {4, 2, 1, 2, 5, 1, 900, x.count(7), 1500, 0, 5};
        for (int what = 0; what < want.length; what++) {
            checks.due("count(" + what + ")", x.count(what), want[what]);
        }
        checks.due("coin is what wasn't paid", x.count(7), 900 - x.about(0, 10) - x.about(1, 10));
        int[] states = {1, 1, 2, 1};
        for (int k = 0; k < 4; k++) {
            checks.due("count(" + (20 + k) + ")", x.count(20 + k), states[k]);
        }
        for (int what : new int[] {-1, 11, 19, 24, Integer.MIN_VALUE, Integer.MAX_VALUE}) {
            checks.due("count(" + what + ")", x.count(what), NONE);
        }
    }
}
