/** The edges of Terms V: FUND, WAVE, LAST, what goes to HEIRS, purses, counts. A method a sentence. */
public final class PayEdgeTest {
    private static final Checks checks = new Checks();
    private static final int NONE = TreatyClaims.NONE;
    private static final int RANGE = TreatyClaims.RANGE;
    private static final int STATE = TreatyClaims.STATE;

    public static void main(String[] args) {
        fundBounds();
        waveByPart();
        waveByFund();
        waveBesideOpenAndSplitOnes();
        waveOfEachIsCut();
        waveOfGreatOnes();
        wavePaysTheRest();
        waveAsFarAsThereIsCoin();
        waveOfNothing();
        lastIfNoneIsOpenOrSplit();
        lastIfItIsEnough();
        lastInMeasure();
        lastByGreatestRest();
        lastOfAlikeRests();
        lastOfGreatOnes();
        paidStaysPaid();
        heirsOfTheDeadToday();
        heirsAtLastToday();
        heirsOfHeirsToday();
        heirsAsKnownToday();
        heirsByTheirParts();
        heirsOfAPenny();
        heirsThreeTimes();
        heirsInARing();
        heirsWithoutHeirs();
        purses();
        counts();
        checks.close("PayEdgeTest");
    }

    /** Each person has a CLAIM on a THING of their own, DECIDED with the sum told. */
    private static TreatyClaims awarded(String rules, int... sums) {
        TreatyClaims x = Checks.withPersons(sums.length);
        checks.holds("'" + rules + "' stands", Checks.rules(x, 0, "need ship 0;" + rules) != NONE);
        for (int i = 0; i < sums.length; i++) {
            x.thing(0, 0, 999999);
            Checks.claim(x, i, i, 0, 999999, "ship");
            x.vote(i, sums[i], sums[i]);
        }
        return x;
    }

    private static void paid(String when, TreatyClaims x, int... want) {
        int sum = 0;
        for (int c = 0; c < want.length; c++) {
            checks.due(when + ": paid on " + c, x.about(c, 10), want[c]);
            sum += want[c];
        }
        checks.due(when + ": coin", x.count(7), x.count(6) - sum);
    }

    /** Promise 44: "Pence come (1 .. 9999999)". */
    private static void fundBounds() {
        for (int pence : new int[] {Integer.MIN_VALUE, -1, 0, 10000000, Integer.MAX_VALUE}) {
            TreatyClaims x = new TreatyClaims();
            checks.due("fund(" + pence + ")", x.fund(pence), RANGE);
            checks.due("FUND", x.count(6), 0);
            checks.due("coin", x.count(7), 0);
        }
        checks.due("fund(1)", new TreatyClaims().fund(1), 1);
        checks.due("fund(9999999)", new TreatyClaims().fund(9999999), 9999999);
    }

    /** "of each AWARD so many thousandths as ten times part": from 1 to 100. */
    private static void waveByPart() {
        for (int part : new int[] {1, 2, 50, 99, 100}) {
            TreatyClaims x = awarded("part " + part + ";", 1000, 99);
            x.fund(9999);
            checks.due("part " + part, x.wave(), 10 * part + 99 * part / 100);
            paid("part " + part, x, 10 * part, 99 * part / 100);
            checks.due("once more", x.wave(), 0);
        }
        TreatyClaims x = awarded("", 1000, 99);
        x.fund(9999);
        checks.due("untold", x.wave(), 1099);
    }

    /** "but no more than FUND (all that came) over all AWARDS .. (cut)". */
    private static void waveByFund() {
        int[] funds = {1, 999, 1000, 1001, 1999, 2000, 499999, 500000, 999999, 1000000, 1000001};
        int[] thousandths = {0, 0, 1, 1, 1, 2, 499, 500, 999, 1000, 1000};
        for (int i = 0; i < funds.length; i++) {
            TreatyClaims x = awarded("", 600000, 400000);
            x.fund(funds[i]);
            checks.due("FUND " + funds[i], x.wave(), 1000 * thousandths[i]);
            paid("FUND " + funds[i], x, 600 * thousandths[i], 400 * thousandths[i]);
        }
        TreatyClaims x = awarded("part 50;", 1000);
        x.fund(499);
        checks.due("part 50, one too little", x.wave(), 499);
        x.fund(1);
        checks.due("all that came, not the coin there is", x.wave(), 1);
        x.fund(500);
        checks.due("no more than part", x.wave(), 0);
        checks.due("coin", x.count(7), 500);
    }

    /** "and the AMOUNTS of those that are OPEN or SPLIT". */
    private static void waveBesideOpenAndSplitOnes() {
        TreatyClaims x = awarded("split umpire;", 1000);
        Checks.claim(x, 0, 0, 0, 500, "ship");
        Checks.claim(x, 0, 0, 0, 500, "boat");
        x.fund(1000);
        x.vote(1, 0, 1);
        checks.due("one SPLIT, one OPEN: 1000 over 2000", x.wave(), 500);
        x.withdraw(2);
        checks.due("one SPLIT: 1000 over 1500", x.wave(), 166);
        x.nation(0, 2, 0);
        x.umpire(0, true);
        x.lot(1, 0, 0);
        checks.due("none: 1000 over 1000", x.wave(), 334);
        paid("all", x, 1000, 0, 0);
    }

    /** "paid less than that (cut)". */
    private static void waveOfEachIsCut() {
        TreatyClaims x = awarded("part 33;", 1, 3, 4, 100, 303, 304);
        x.fund(9999);
        checks.due("330 thousandths", x.wave(), 0 + 0 + 1 + 33 + 99 + 100);
        paid("330 thousandths", x, 0, 0, 1, 33, 99, 100);
        TreatyClaims y = awarded("part 99;", 999999);
        y.fund(9999999);
        checks.due("990 thousandths of a great one", y.wave(), 989999);
    }

    /** Products far beyond an int: of FUND, and of an AWARD with all INTEREST that there can be. */
    private static void waveOfGreatOnes() {
        TreatyClaims x = awarded("", 1000);
        for (int c = 1; c <= 20; c++) {
            Checks.claim(x, 0, 0, 0, 999999, "ship");
        }
        x.fund(9999999);
        checks.due("9999999 over 20000980: 499 thousandths", x.wave(), 499);
        TreatyClaims y = Checks.withPersons(1);
        Checks.rules(y, 0, "need ship 0;rate 99 loss;part 99;");
        y.thing(0, 0, 999999);
        Checks.claim(y, 0, 0, 0, 999999, "ship");
        Checks.passTo(y, 1999);
        y.vote(0, 999999, 999999);
        y.fund(9999999);
        checks.due("990 thousandths of 6497243", y.wave(), 6432270);
        checks.due("and the rest", y.last(), 64973);
    }

    /** "each that was paid less than that is paid the rest"; who was paid more has nothing taken. */
    private static void wavePaysTheRest() {
        TreatyClaims x = awarded("part 50;", 1000, 1000);
        x.fund(9999);
        checks.due("a half", x.wave(), 1000);
        Checks.rules(x, 1, "part 40;");
        x.force(1);
        checks.due("less than was paid", x.wave(), 0);
        paid("as before", x, 500, 500);
        Checks.rules(x, 1, "part 51;");
        checks.due("one hundredth more", x.wave(), 20);
        paid("then", x, 510, 510);
    }

    /** "by number, as far as there is coin". */
    private static void waveAsFarAsThereIsCoin() {
        for (int coin = 0; coin <= 25; coin++) {
            TreatyClaims x = awarded("late 5;", 100, 10, 10);
            x.fund(100);
            checks.due("100 over 120", x.wave(), 83 + 8 + 8);
            x.last();
            x.nation(0, 1, 0);
            checks.due("the first is OPEN again", x.again(0), 1);
            x.withdraw(0);
            int paidOn1 = x.about(1, 10);
            int paidOn2 = x.about(2, 10);
            if (coin > 0) {
                x.fund(coin);
            }
            int wants = 20 - paidOn1 - paidOn2;
            checks.due("wave with " + coin, x.wave(), Math.min(coin, wants));
            checks.due("the lower number first", x.about(1, 10), paidOn1 + Math.min(coin, 10 - paidOn1));
        }
    }

    /** Where nothing is asked for, nothing is paid. */
    private static void waveOfNothing() {
        TreatyClaims x = awarded("", 0, 0);
        x.fund(10);
        checks.due("AWARDS of 0", x.wave(), 0);
        TreatyClaims y = Checks.withPersons(1);
        y.rate(1, 0, 1);
        y.thing(0, 0, 5);
        Checks.write(y, "ship");
        y.claim(0, 0, 0, 0, 1, 1);
        y.fund(10);
        checks.due("an OPEN one of AMOUNT 0", y.wave(), 0);
        checks.due("coin", y.count(7), 10);
    }

    /** "LAST, if none is OPEN or SPLIT". */
    private static void lastIfNoneIsOpenOrSplit() {
        TreatyClaims x = awarded("split umpire;", 100);
        Checks.claim(x, 0, 0, 0, 10, "ship");
        x.fund(100);
        checks.due("one is OPEN", x.last(), STATE);
        x.vote(1, 0, 1);
        checks.due("one is SPLIT", x.last(), STATE);
        paid("nothing", x, 0, 0);
        x.nation(0, 2, 0);
        x.umpire(0, true);
        x.lot(1, 0, 0);
        checks.due("all are DECIDED", x.last(), 100);
        TreatyClaims y = awarded("", 100);
        Checks.claim(y, 0, 0, 0, 10, "ship");
        y.fund(50);
        y.withdraw(1);
        checks.due("one is WITHDRAWN", y.last(), 50);
    }

    /** "if it isn't enough for all; else all they want": just enough, one less, one more. */
    private static void lastIfItIsEnough() {
        TreatyClaims x = awarded("", 10, 20);
        x.fund(30);
        checks.due("just enough", x.last(), 30);
        paid("just enough", x, 10, 20);
        TreatyClaims y = awarded("", 10, 20);
        y.fund(29);
        checks.due("one less", y.last(), 29);
        paid("one less", y, 10, 19);
        TreatyClaims z = awarded("", 10, 20);
        z.fund(31);
        checks.due("one more", z.last(), 30);
        paid("one more", z, 10, 20);
        checks.due("nobody wants more", z.last(), 0);
    }

    /** "in the measure of what each AWARD still wants": not of the AWARD itself. */
    private static void lastInMeasure() {
        TreatyClaims x = awarded("part 50;late 5;", 100, 100, 0);
        x.fund(100);
        checks.due("a half of each", x.wave(), 100);
        x.nation(1, 1, 0);
        x.again(1);
        x.nation(1, 0, 0);
        x.vote(1, 250, 250);
        x.fund(50);
        checks.due("50 for 50 and 200", x.last(), 50);
        paid("10 and 40", x, 60, 90, 0);
        TreatyClaims y = awarded("", 2, 5);
        y.fund(5);
        checks.due("5 for 2 and 5", y.last(), 5);
        paid("1.43 and 3.57", y, 1, 4);
        TreatyClaims z = awarded("", 1, 2, 5);
        z.fund(6);
        checks.due("6 for 1, 2 and 5", z.last(), 6);
        paid("0.75, 1.5 and 3.75", z, 1, 1, 4);
    }

    /** "the whole part; of what is left over one each to those with the greatest rest". */
    private static void lastByGreatestRest() {
        TreatyClaims x = awarded("", 1, 2, 3, 4);
        x.fund(5);
        checks.due("0.5, 1, 1.5, 2", x.last(), 5);
        paid("0.5, 1, 1.5, 2", x, 1, 1, 1, 2);
        TreatyClaims y = awarded("", 3, 8, 9);
        y.fund(9);
        checks.due("1.35, 3.6, 4.05", y.last(), 9);
        paid("1.35, 3.6, 4.05", y, 1, 4, 4);
        TreatyClaims z = awarded("", 1, 1, 1, 97);
        z.fund(99);
        checks.due("0.99 thrice, 96.03", z.last(), 99);
        paid("0.99 thrice, 96.03", z, 1, 1, 1, 96);
        TreatyClaims one = awarded("", 49, 50);
        one.fund(1);
        checks.due("0.49.., 0.50..", one.last(), 1);
        paid("0.49.., 0.50..", one, 0, 1);
    }

    /** "of alike ones to the lowest numbers"; one who wants nothing has none of it. */
    private static void lastOfAlikeRests() {
        TreatyClaims x = awarded("", 0, 7, 7, 0, 7);
        x.fund(1);
        checks.due("one penny", x.last(), 1);
        paid("one penny", x, 0, 1, 0, 0, 0);
        TreatyClaims y = awarded("", 0, 7, 7, 0, 7);
        y.fund(2);
        checks.due("two pence", y.last(), 2);
        paid("two pence", y, 0, 1, 1, 0, 0);
        TreatyClaims z = awarded("", 0, 7, 7, 0, 7);
        z.fund(20);
        checks.due("one less than all", z.last(), 20);
        paid("one less than all", z, 0, 7, 7, 0, 6);
    }

    /** Products far beyond an int. */
    private static void lastOfGreatOnes() {
        TreatyClaims x = awarded("", 999999, 999999, 999998);
        x.fund(2999995);
        checks.due("one less than all", x.last(), 2999995);
        paid("each but one penny, and two over: to the last, whose rest is greatest, and the first", x, 999999, 999998, 999998);
    }

    /** "what was paid stays paid": what is over is neither taken back nor wanted. */
    private static void paidStaysPaid() {
        TreatyClaims x = awarded("late 5;", 100, 100);
        x.fund(200);
        checks.due("all", x.wave(), 200);
        x.nation(0, 1, 0);
        checks.due("again", x.again(0), 1);
        checks.due("paid still", x.about(0, 10), 100);
        x.nation(0, 0, 0);
        x.vote(0, 99, 99);
        x.fund(50);
        checks.due("one less than was paid", x.wave(), 0);
        checks.due("nor at last", x.last(), 0);
        paid("as before", x, 100, 100);
        x.nation(0, 1, 0);
        x.again(0);
        x.nation(0, 0, 0);
        x.vote(0, 101, 101);
        checks.due("one more than was paid", x.wave(), 1);
        paid("one more", x, 101, 100);
        checks.due("the purse", x.purse(0), 101);
        TreatyClaims y = awarded("late 5;", 50, 0, 0);
        y.fund(50);
        checks.due("all of the first", y.last(), 50);
        for (int c = 0; c < 3; c++) {
            y.nation(c, 1, 0);
            checks.due("again", y.again(c), 1);
            y.nation(c, 0, 0);
        }
        y.vote(0, 0, 0);
        y.vote(1, 9, 9);
        y.vote(2, 1, 1);
        y.fund(9);
        checks.due("one less than the others want", y.last(), 9);
        paid("what the first has too much is wanted by none", y, 50, 8, 1);
    }

    /** "if DEAD (today, ..)": from today on, and from tomorrow on. */
    private static void heirsOfTheDeadToday() {
        for (int from = 4; from <= 6; from++) {
            TreatyClaims x = awarded("", 10, 0);
            x.pass(5);
            x.dead(0, from);
            x.heir(0, 1, 1);
            x.fund(10);
            checks.due("wave()", x.wave(), 10);
            checks.due("DEAD from " + from + " on: the purse", x.purse(0), from > 5 ? 10 : 0);
            checks.due("DEAD from " + from + " on: the heir's", x.purse(1), from > 5 ? 0 : 10);
            checks.due("paid on the CLAIM", x.about(0, 10), 10);
        }
    }

    /** The LAST one "goes .. if DEAD (today, ..) to the HEIRS" too, enough for all or not. */
    private static void heirsAtLastToday() {
        for (int coin = 9; coin <= 10; coin++) {
            for (int from = 4; from <= 6; from++) {
                TreatyClaims x = awarded("", 10, 0);
                x.pass(5);
                x.dead(0, from);
                x.heir(0, 1, 1);
                x.fund(coin);
                checks.due("last()", x.last(), coin);
                checks.due("DEAD from " + from + " on: the purse", x.purse(0), from > 5 ? coin : 0);
                checks.due("DEAD from " + from + " on: the heir's", x.purse(1), from > 5 ? 0 : coin);
            }
        }
    }

    /** "each HEIR's part again so, if they are DEAD (today)": from today on, and from tomorrow on. */
    private static void heirsOfHeirsToday() {
        for (int from = 4; from <= 6; from++) {
            TreatyClaims x = awarded("", 10, 0, 0);
            x.pass(5);
            x.dead(0, 0);
            x.heir(0, 1, 1);
            x.dead(1, from);
            x.heir(1, 2, 1);
            x.fund(10);
            checks.due("wave()", x.wave(), 10);
            checks.due("an heir DEAD from " + from + " on: the purse", x.purse(1), from > 5 ? 10 : 0);
            checks.due("an heir DEAD from " + from + " on: the heir's", x.purse(2), from > 5 ? 0 : 10);
        }
    }

    /** "as KNOWN today": what is told later doesn't move what was paid. */
    private static void heirsAsKnownToday() {
        TreatyClaims x = awarded("part 50;", 100, 0, 0);
        x.fund(100);
        x.wave();
        x.dead(0, 0);
        x.heir(0, 1, 1);
        checks.due("what was paid", x.purse(0), 50);
        Checks.rules(x, 0, "part 80;");
        x.wave();
        checks.due("what is paid then", x.purse(1), 30);
        x.heir(0, 2, 9);
        x.heir(0, 1, 1);
        Checks.rules(x, 0, "part 100;");
        x.wave();
        checks.due("a tenth of the last 20", x.purse(1), 32);
        checks.due("nine tenths of them", x.purse(2), 18);
        checks.due("what the first has", x.purse(0), 50);
    }

    /** "by their parts (the whole part; of what is left over one each in their order)". */
    private static void heirsByTheirParts() {
        TreatyClaims x = awarded("", 100, 0, 0, 0);
        x.dead(0, 0);
        x.heir(0, 3, 1);
        x.heir(0, 1, 1);
        x.heir(0, 2, 1);
        x.fund(100);
        x.wave();
        checks.due("one over, to the first told", x.purse(3), 34);
        checks.due("the second", x.purse(1), 33);
        checks.due("the third", x.purse(2), 33);
        TreatyClaims y = awarded("", 101, 0, 0, 0);
        y.dead(0, 0);
        y.heir(0, 3, 1);
        y.heir(0, 1, 99);
        y.heir(0, 2, 50);
        y.fund(101);
        y.wave();
        checks.due("101 of 150", y.purse(3), 1);
        checks.due("9999 of 150", y.purse(1), 67);
        checks.due("5050 of 150", y.purse(2), 33);
        TreatyClaims z = awarded("", 999999, 0, 0);
        z.dead(0, 0);
        z.heir(0, 1, 99);
        z.heir(0, 2, 98);
        z.fund(999999);
        z.wave();
        checks.due("99 of 197 of a great one, and one over", z.purse(1), 502538);
        checks.due("98 of 197 of it", z.purse(2), 497461);
    }

    /** One penny among more than one: the first has it. */
    private static void heirsOfAPenny() {
        TreatyClaims x = awarded("", 1, 0, 0, 0);
        x.dead(0, 0);
        x.heir(0, 2, 1);
        x.heir(0, 1, 99);
        x.dead(2, 0);
        x.heir(2, 3, 1);
        x.fund(1);
        checks.due("wave()", x.wave(), 1);
        checks.due("the heir's heir", x.purse(3), 1);
        checks.due("the one with most parts", x.purse(1), 0);
    }

    /** "three times at most one behind the other (then it stays with them)". */
    private static void heirsThreeTimes() {
        for (int dead = 0; dead <= 6; dead++) {
            TreatyClaims x = awarded("", 10, 0, 0, 0, 0, 0, 0);
            for (int p = 0; p < 6; p++) {
                x.heir(p, p + 1, 1);
            }
            for (int p = 0; p < dead; p++) {
                x.dead(p, 0);
            }
            x.fund(10);
            x.wave();
            for (int p = 0; p < 7; p++) {
                checks.due(dead + " are DEAD: purse of " + p, x.purse(p), p == Math.min(dead, 3) ? 10 : 0);
            }
        }
    }

    /** HEIRS of one another: it ends all the same. */
    private static void heirsInARing() {
        TreatyClaims x = awarded("", 81, 0, 0);
        for (int p = 0; p < 3; p++) {
            x.dead(p, 0);
            x.heir(p, (p + 1) % 3, 2);
            x.heir(p, (p + 2) % 3, 1);
        }
        x.fund(81);
        checks.due("wave()", x.wave(), 81);
        checks.due("purse of 0", x.purse(0), 27);
        checks.due("purse of 1", x.purse(1), 36);
        checks.due("purse of 2", x.purse(2), 18);
    }

    /** "without HEIRS it stays with the one who is DEAD", also one who is an heir. */
    private static void heirsWithoutHeirs() {
        TreatyClaims x = awarded("", 10, 0, 0);
        x.dead(0, 0);
        x.fund(10);
        x.wave();
        checks.due("it stays", x.purse(0), 10);
        TreatyClaims y = awarded("", 10, 0, 0);
        y.dead(0, 0);
        y.dead(1, 0);
        y.heir(0, 1, 1);
        y.heir(0, 2, 1);
        y.fund(10);
        y.wave();
        checks.due("it stays with the heir", y.purse(1), 5);
        checks.due("the other heir", y.purse(2), 5);
    }

    /** Promise 47: "What came to a person in all". */
    private static void purses() {
        TreatyClaims x = awarded("part 50;", 10, 20);
        checks.due("at first", x.purse(0), 0);
        Checks.claim(x, 0, 1, 3, 999999, "ship");
        checks.due("nothing is DUE of it", x.vote(2, 0, 0), 2);
        x.fund(30);
        x.wave();
        checks.due("by a wave", x.purse(0), 5);
        x.last();
        checks.due("by the last one", x.purse(0), 10);
        checks.due("the other", x.purse(1), 20);
        for (int p : new int[] {Integer.MIN_VALUE, -1, 2, 60, Integer.MAX_VALUE}) {
            checks.due("purse(" + p + ")", x.purse(p), RANGE);
        }
    }

    /** Promise 48: "NONE for others": the numbers between and beyond. */
    private static void counts() {
        TreatyClaims x = awarded("", 10);
        for (int what = -30; what < 60; what++) {
            boolean such = what >= 0 && what <= 10 || what >= 20 && what <= 23;
            checks.due("count(" + what + ") is such", x.count(what) != NONE ? 1 : 0, such ? 1 : 0);
        }
        checks.due("count(MIN)", x.count(Integer.MIN_VALUE), NONE);
        checks.due("count(MAX)", x.count(Integer.MAX_VALUE), NONE);
    }
}
