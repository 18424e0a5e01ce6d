/** Promises 34 to 38 and 43: what is due, votes, umpires, lots, awards, and cases that are opened again. */
public final class DecisionTest {
    private static final Checks checks = new Checks();
    private static final int NONE = TreatyClaims.NONE;
    private static final int RANGE = TreatyClaims.RANGE;
    private static final int STATE = TreatyClaims.STATE;

    public static void main(String[] args) {
        dueByRoles();
        dueInMeasure();
        dueAsThingsAre();
        votes();
        umpires();
        lots();
        interest();
        cap();
        again();
        againKeeps();
        checks.close("DecisionTest");
    }

    private static TreatyClaims lost(int worth, String rules) {
        TreatyClaims x = Checks.withPersons(6);
        x.thing(0, 0, worth);
        checks.holds("rules '" + rules + "' stand", Checks.rules(x, 0, rules) != NONE);
        return x;
    }

    private static void dues(String when, TreatyClaims x, int... want) {
        for (int c = 0; c < want.length; c++) {
            checks.due(when + ": due(" + c + ")", x.due(c), want[c]);
        }
    }

    private static void dueByRoles() {
        TreatyClaims x = lost(100, "need ship 0;");
        checks.due("due of none", x.due(0), RANGE);
        checks.due("due of -1", x.due(-1), RANGE);
        Checks.claim(x, 0, 0, 3, 30, "ship");
        Checks.claim(x, 0, 0, 2, 30, "ship");
        Checks.claim(x, 0, 0, 1, 30, "ship");
        Checks.claim(x, 0, 0, 0, 60, "ship");
        dues("as roles are numbered", x, 0, 10, 30, 60);
        Checks.rules(x, 0, "need ship 0;order insurer;");
        dues("insurers first", x, 30, 0, 10, 60);
        Checks.rules(x, 0, "need ship 0;order lender cargo insurer;");
        dues("owners last", x, 30, 30, 30, 10);
        Checks.claim(x, 0, 0, 2, 30, "house");
        checks.due("not proven", x.due(4), 0);
        dues("beside one that isn't proven", x, 30, 30, 30, 10);
        x.thing(0, 0, 77);
        Checks.claim(x, 0, 1, 0, 500, "ship");
        checks.due("of another thing", x.due(5), 77);
        x.force(1);
        dues("by another version", x, 0, 0, 0, 0, 0, 0);
    }

    private static void dueInMeasure() {
        TreatyClaims x = lost(100, "need ship 0;");
        for (int i = 0; i < 3; i++) {
            Checks.claim(x, 0, 0, 0, 50, "ship");
        }
        dues("three alike", x, 34, 33, 33);
        Checks.claim(x, 0, 0, 0, 7, "ship");
        dues("four", x, 32, 32, 32, 4);
        x.withdraw(1);
        dues("one withdrawn", x, 47, 0, 47, 6);
        TreatyClaims y = lost(999999, "need ship 0;");
        Checks.claim(y, 0, 0, 0, 999999, "ship");
        Checks.claim(y, 0, 0, 0, 999998, "ship");
        dues("great ones", y, 500000, 499999);
        TreatyClaims z = lost(5, "need ship 0;");
        z.rate(1, 0, 1);
        Checks.write(z, "ship");
        z.claim(0, 0, 0, 0, 1, 99);
        Checks.claim(z, 0, 0, 0, 3, "ship");
        Checks.claim(z, 0, 0, 0, 3, "ship");
        dues("what is left over, also to one of no amount", z, 1, 2, 2);
    }

    private static void dueAsThingsAre() {
        TreatyClaims x = lost(NONE, "need ship 1;weigh a 1;");
        Checks.claim(x, 0, 0, 0, 50, "ship");
        Checks.paper(x, 0, 1, 5, "a");
        checks.due("of no worth", x.due(0), 0);
        x.thing(0, 1, 20);
        checks.due("of another's worth", x.due(0), 20);
        x.thing(0, 0, 40);
        checks.due("of the worth of one more like", x.due(0), 40);
        x.dead(1, 5);
        checks.due("with a forged paper", x.due(0), 0);
    }

    private static void votes() {
        TreatyClaims x = lost(100, "need ship 0;");
        checks.due("vote on none", x.vote(0, 0, 0), RANGE);
        for (int i = 0; i < 6; i++) {
            Checks.claim(x, 0, 0, 0, 10, "ship");
        }
        checks.due("above the due", x.vote(0, 11, 0), RANGE);
        checks.due("above the due, the other", x.vote(0, 0, 11), RANGE);
        checks.due("below 0", x.vote(0, -1, 0), RANGE);
        checks.due("below 0, the other", x.vote(0, 0, -1), RANGE);
        checks.due("mean, untold", x.vote(0, 10, 3), 2);
        checks.due("its half, cut", x.about(0, 8), 6);
        checks.due("day", x.about(0, 11), 0);
        checks.due("STATE ahead of RANGE", x.vote(0, 11, 0), STATE);
        Checks.rules(x, 0, "need ship 0;split least;");
        checks.due("least", x.vote(1, 10, 3), 2);
        checks.due("the lesser", x.about(1, 8), 3);
        checks.due("least, the other way", x.vote(2, 4, 9), 2);
        checks.due("the lesser of them", x.about(2, 8), 4);
        Checks.rules(x, 0, "need ship 0;split umpire;");
        checks.due("umpire, alike", x.vote(3, 7, 7), 2);
        checks.due("that sum", x.about(3, 8), 7);
        checks.due("umpire, unlike", x.vote(4, 7, 8), 1);
        checks.due("votes", x.about(4, 12), 7);
        checks.due("the other", x.about(4, 13), 8);
        checks.due("no sum", x.about(4, 8), 0);
        checks.due("no award", x.about(4, 9), 0);
        checks.due("no day", x.about(4, 11), NONE);
        checks.due("vote on a split one", x.vote(4, 7, 7), STATE);
        checks.due("count(21)", x.count(21), 1);
        checks.due("nothing for it", x.vote(5, 0, 0), 2);
        checks.due("count(22)", x.count(22), 5);
        Checks.claim(x, 0, 0, 0, 10, "house");
        checks.due("one that isn't proven", x.vote(6, 1, 0), RANGE);
        checks.due("one that isn't proven, 0", x.vote(6, 0, 0), 2);
    }

    private static void umpires() {
        TreatyClaims x = Checks.withPersons(4);
        checks.due("umpire of none", x.umpire(4, true), RANGE);
        checks.due("umpire of -1", x.umpire(-1, false), RANGE);
        checks.due("not on it", x.umpire(0, false), 0);
        checks.due("on it", x.umpire(0, true), 1);
        checks.due("still on it", x.umpire(0, true), 0);
        checks.due("of a side", x.lots(), 0);
        x.nation(0, 3, 5);
        checks.due("not yet", x.lots(), 0);
        x.pass(5);
        checks.due("then", x.lots(), 1);
        x.dead(0, 6);
        checks.due("alive today", x.lots(), 1);
        x.pass(1);
        checks.due("dead today", x.lots(), 0);
        x.nation(1, 2, 0);
        x.umpire(1, true);
        checks.due("another", x.lots(), 1);
        checks.due("off it", x.umpire(1, false), 1);
        checks.due("lots then", x.lots(), 0);
    }

    private static void lots() {
        TreatyClaims x = lost(100, "need ship 0;split umpire;");
        Checks.claim(x, 0, 0, 0, 50, "ship");
        checks.due("lot of none", x.lot(1, 0, 0), RANGE);
        checks.due("lot of -1", x.lot(-1, 0, 0), RANGE);
        checks.due("lot of an open one", x.lot(0, 9, -5), STATE);
        x.vote(0, 20, 40);
        checks.due("with nobody to draw", x.lot(0, 0, 30), RANGE);
        for (int p = 1; p < 5; p++) {
            x.nation(p, p == 3 ? 1 : 2, 0);
            x.umpire(p, true);
        }
        checks.due("lots()", x.lots(), 3);
        checks.due("number 3", x.lot(0, 3, 30), RANGE);
        checks.due("number -1", x.lot(0, -1, 30), RANGE);
        checks.due("below the lesser", x.lot(0, 0, 19), RANGE);
        checks.due("above the greater", x.lot(0, 0, 41), RANGE);
        x.pass(3);
        checks.due("by number, without the one of a side", x.lot(0, 2, 40), 4);
        checks.due("state", x.about(0, 7), 2);
        checks.due("sum", x.about(0, 8), 40);
        checks.due("day", x.about(0, 11), 3);
        checks.due("votes are gone", x.about(0, 12), 0);
        checks.due("the other too", x.about(0, 13), 0);
        checks.due("once alone", x.lot(0, 0, 30), STATE);
        Checks.claim(x, 0, 0, 0, 50, "ship");
        x.vote(1, 30, 10);
        checks.due("the lesser vote itself", x.lot(1, 0, 10), 1);
        x.nation(0, 3, 0);
        x.umpire(0, true);
        checks.due("lots() with the first", x.lots(), 4);
        x.nation(0, 0, 0);
        x.sides(1, 3);
        Checks.claim(x, 5, 0, 0, 50, "ship");
        x.vote(2, 0, 10);
        checks.due("the first of all", x.lot(2, 0, 5), 0);
    }

    private static int award(String rules, int sum, int days) {
        TreatyClaims x = Checks.withPersons(1);
        x.pass(10);
        x.thing(4, 0, 999999);
        Checks.claim(x, 0, 0, 0, 999999, "ship");
        Checks.rules(x, 0, "need ship 0;" + rules);
        for (int left = days; left > 0; left -= 500) {
            x.pass(Math.min(left, 500));
        }
        x.vote(0, sum, sum);
        return x.about(0, 9);
    }

    private static void interest() {
        checks.due("no rate", award("", 1000, 100), 1000);
        checks.due("from the loss", award("rate 36 loss;", 1000, 100), 1106);
        checks.due("from the filing", award("rate 36 filing;", 1000, 100), 1100);
        checks.due("on the day itself", award("rate 99 filing;", 1000, 0), 1000);
        checks.due("cut", award("rate 1 filing;", 35999, 1), 35999);
        checks.due("one", award("rate 1 filing;", 36000, 1), 36001);
        checks.due("the greatest", award("rate 99 loss;", 999999, 1989), 999999 + 5486244);
    }

    private static void cap() {
        checks.due("below the cap", award("cap 1;", 999, 0), 999);
        checks.due("above the cap", award("cap 1;", 1001, 0), 1000);
        checks.due("interest is under it too", award("cap 1;rate 36 filing;", 990, 100), 1000);
        TreatyClaims x = lost(5000, "need ship 0;cap 2;late 9;");
        for (int i = 0; i < 4; i++) {
            Checks.claim(x, 0, 0, i, 900, "ship");
            x.vote(i, 900, 900);
        }
        checks.due("first", x.about(0, 9), 900);
        checks.due("second", x.about(1, 9), 900);
        checks.due("third, what is left", x.about(2, 9), 200);
        checks.due("fourth", x.about(3, 9), 0);
        checks.due("its sum all the same", x.about(3, 8), 900);
        checks.due("count(8)", x.count(8), 2000);
        Checks.claim(x, 0, 0, 0, 4900, "ship");
        checks.due("an open one moves the dues", x.again(3), 1);
        checks.due("what is due to it then", x.due(3), 0);
        Checks.rules(x, 0, "need ship 0;cap 1;late 9;order insurer;");
        checks.due("a cap that is passed already", x.vote(3, 900, 900), 2);
        checks.due("lets nothing", x.about(3, 9), 0);
        Checks.rules(x, 0, "need ship 0;late 9;order insurer;");
        Checks.claim(x, 0, 0, 0, 1, "ship");
        checks.due("reopened: its award is none", x.again(0), 1);
        checks.due("count(8) then", x.count(8), 1100);
    }

    private static void again() {
        TreatyClaims x = lost(100, "need ship 1;weigh a 1;late 5;");
        checks.due("again of none", x.again(0), RANGE);
        checks.due("again of -1", x.again(-1), RANGE);
        Checks.claim(x, 0, 0, 0, 60, "ship");
        checks.due("of an open one", x.again(0), STATE);
        x.vote(0, 0, 0);
        checks.due("nothing is unlike", x.again(0), 0);
        x.pass(5);
        checks.due("nor later", x.again(0), 0);
        Checks.paper(x, 0, NONE, 0, "a");
        checks.due("a late find", x.again(0), 1);
        checks.due("state", x.about(0, 7), 0);
        checks.due("not once more", x.again(0), STATE);
        x.vote(0, 60, 50);
        Checks.claim(x, 0, 0, 0, 60, "ship");
        checks.due("one that isn't proven changes nothing", x.again(0), 0);
        Checks.paper(x, 1, NONE, 0, "a");
        x.pass(6);
        checks.due("longer ago", x.again(0), STATE);
        Checks.rules(x, 0, "need ship 1;weigh a 1;late 6;");
        checks.due("by the version in force; its due is unlike", x.again(0), 1);
        checks.due("sum", x.about(0, 8), 0);
        checks.due("award", x.about(0, 9), 0);
        checks.due("day", x.about(0, 11), NONE);
        TreatyClaims y = lost(100, "need ship 0;late 5;");
        Checks.claim(y, 0, 0, 0, 60, "ship");
        y.vote(0, 0, 0);
        Checks.rules(y, 2, "need ship 0;late 5;bar 0;chain loss;days 0 0;");
        y.force(2);
        checks.due("what fails by another version is alike", y.again(0), 0);
        Checks.rules(y, 2, "need ship 1;late 5;");
        checks.due("what fails by it is unlike", y.again(0), 1);
        Checks.claim(y, 0, 0, 0, 60, "ship");
        y.vote(0, 0, 0);
        Checks.rules(y, 2, "need ship 1;late 5;must ship b;");
        checks.due("what fails is unlike, though 0 is due as before", y.again(0), 1);
    }

    /** What is kept is as it was when the claim was decided, not when it was split. */
    private static void againKeeps() {
        TreatyClaims x = lost(100, "need ship 0;split umpire;late 5;test 0;");
        x.nation(1, 2, 0);
        x.umpire(1, true);
        Checks.claim(x, 0, 0, 1, 80, "ship");
        x.vote(0, 80, 20);
        Checks.claim(x, 0, 0, 0, 60, "ship");
        x.lot(0, 0, 20);
        checks.due("nothing is unlike since the lot", x.again(0), 0);
        checks.due("spread by the due as kept", x.spread(0), 1);
        checks.due("60 * 20 / 40", x.about(1, 8), 30);
    }
}
