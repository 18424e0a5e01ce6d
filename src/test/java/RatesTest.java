/** Promises 12 and 13: rates; and what an amount is (33). */
public final class RatesTest {
    private static final Checks checks = new Checks();
    private static final int RANGE = TreatyClaims.RANGE;

    public static void main(String[] args) {
        told();
        end();
        amounts();
        checks.close("RatesTest");
    }

    private static void told() {
        TreatyClaims x = new TreatyClaims();
        checks.due("rate of currency 0", x.rate(0, 0, 5), RANGE);
        checks.due("rate of currency 4", x.rate(4, 0, 5), RANGE);
        checks.due("rate on -1", x.rate(1, -1, 5), RANGE);
        checks.due("rate on 2000", x.rate(1, 2000, 5), RANGE);
        checks.due("rate of 0 pence", x.rate(1, 0, 0), RANGE);
        checks.due("rate of 100000 pence", x.rate(1, 0, 100000), RANGE);
        checks.due("rate 1", x.rate(1, 10, 99999), 1);
        checks.due("rate 2", x.rate(1, 5, 1), 2);
        checks.due("rate 3", x.rate(3, 1999, 7), 3);
        checks.due("on 4", x.rateOn(1, 4), 100);
        checks.due("on 5", x.rateOn(1, 5), 1);
        checks.due("on 9", x.rateOn(1, 9), 1);
        checks.due("on 10", x.rateOn(1, 10), 99999);
        checks.due("on 1999", x.rateOn(1, 1999), 99999);
        checks.due("of 2", x.rateOn(2, 1999), 100);
        checks.due("of 3", x.rateOn(3, 1999), 7);
        checks.due("of 0", x.rateOn(0, 1999), 100);
        checks.due("of one day that told last", x.rate(1, 5, 44), 4);
        checks.due("on 5 then", x.rateOn(1, 5), 44);
        checks.due("rateOn of 4", x.rateOn(4, 0), RANGE);
        checks.due("rateOn of -1", x.rateOn(-1, 0), RANGE);
        checks.due("rateOn on 2000", x.rateOn(0, 2000), RANGE);
        checks.due("rateOn on -1", x.rateOn(0, -1), RANGE);
    }

    private static void end() {
        TreatyClaims x = new TreatyClaims();
        for (int i = 1; i <= 60; i++) {
            checks.due("rate " + i, x.rate(2, i, i), i);
        }
        checks.due("rate 61", x.rate(2, 1, 1), TreatyClaims.FULL);
        checks.due("RANGE ahead of FULL", x.rate(0, 1, 1), RANGE);
        checks.due("the last of them", x.rateOn(2, 1999), 60);
    }

    private static int amount(TreatyClaims x, int currency, int sum) {
        Checks.write(x, "ship");
        return x.about(x.claim(0, 0, 0, 0, currency, sum), 4);
    }

    private static void amounts() {
        TreatyClaims x = Checks.withPersons(1);
        x.pass(20);
        x.thing(10, 0, 5);
        x.rate(1, 10, 250);
        x.rate(1, 11, 900);
        x.rate(2, 0, 1);
        x.rate(3, 0, 99999);
        checks.due("at the rate of the day of the loss, cut", amount(x, 1, 3), 7);
        checks.due("nothing", amount(x, 2, 99), 0);
        checks.due("one", amount(x, 2, 199), 1);
        checks.due("no more than 999999", amount(x, 3, 9999999), 999999);
        checks.due("pence", amount(x, 0, 9999999), 999999);
        checks.due("pence below that", amount(x, 0, 999998), 999998);
        x.rate(1, 10, 100);
        checks.due("as it is when it is filed", x.about(0, 4), 7);
        checks.due("one that is filed then", amount(x, 1, 3), 3);
    }
}
