/** Promises 27 to 32: what fails, points, what lacks, the weakest link, versions beside one another, withdrawals. */
public final class ProofTest {
    private static final Checks checks = new Checks();
    private static final int NONE = TreatyClaims.NONE;
    private static final int RANGE = TreatyClaims.RANGE;

    public static void main(String[] args) {
        wrongInputs();
        barAndDays();
        chains();
        chainAlways();
        points();
        demands();
        lacks();
        lacksOfMany();
        weakest();
        beside();
        withdraw();
        checks.close("ProofTest");
    }

    /** One claim of person 0 for a ship that was lost on a day, filed on another. */
    private static TreatyClaims claimed(int lost, int filed, String rules) {
        TreatyClaims x = Checks.withPersons(3);
        if (filed > 0) {
            x.pass(filed);
        }
        x.thing(lost, 0, 1000);
        Checks.claim(x, 0, 0, 0, 100, "ship");
        checks.holds("rules '" + rules + "' stand", Checks.rules(x, 0, rules) != NONE);
        return x;
    }

    private static void wrongInputs() {
        TreatyClaims x = claimed(0, 0, "");
        int[][] wrong = {{1, 0, 0}, {-1, 0, 0}, {0, 4, 0}, {0, -1, 0}, {0, 0, 2000}, {0, 0, -1}};
        for (int[] w : wrong) {
            String with = "(" + w[0] + ", " + w[1] + ", " + w[2] + ")";
            checks.due("fails" + with, x.fails(w[0], w[1], w[2]), RANGE);
            checks.due("points" + with, x.points(w[0], w[1], w[2]), RANGE);
            checks.due("lacks" + with, x.lacks(w[0], w[1], w[2]), RANGE);
            checks.due("weakest" + with, x.weakest(w[0], w[1], w[2]), RANGE);
        }
        checks.due("beside(4, 0)", x.beside(4, 0), RANGE);
        checks.due("beside(0, -1)", x.beside(0, -1), RANGE);
        checks.due("withdraw(1)", x.withdraw(1), RANGE);
        checks.due("withdraw(-1)", x.withdraw(-1), RANGE);
        checks.due("nothing told: points are below 10", x.fails(0, 3, 0), 8);
    }

    private static void barAndDays() {
        checks.due("on the bar", claimed(5, 9, "need ship 0;bar 9;").fails(0, 0, 9), 0);
        checks.due("behind the bar", claimed(5, 9, "need ship 0;bar 8;").fails(0, 0, 9), 1);
        checks.due("on the first day", claimed(5, 9, "need ship 0;days 5 8;").fails(0, 0, 9), 0);
        checks.due("ahead of it", claimed(5, 9, "need ship 0;days 6 8;").fails(0, 0, 9), 2);
        checks.due("on the last day", claimed(5, 9, "need ship 0;days 0 5;").fails(0, 0, 9), 0);
        checks.due("behind it", claimed(5, 9, "need ship 0;days 0 4;").fails(0, 0, 9), 2);
        checks.due("both", claimed(5, 9, "need ship 0;days 0 4;bar 0;").fails(0, 0, 9), 3);
    }

    private static int chain(String chain, int onLoss, int onFiling) {
        TreatyClaims x = claimed(5, 9, "need ship 0;chain " + chain + ";");
        x.nation(0, onLoss, 5);
        x.nation(0, onFiling, 9);
        return x.fails(0, 0, 9);
    }

    private static void chains() {
        checks.due("loss, of it on the loss", chain("loss", 0, 1), 0);
        checks.due("loss, of it on the filing", chain("loss", 1, 0), 4);
        checks.due("filing, of it on the loss", chain("filing", 0, 1), 4);
        checks.due("filing, of it on the filing", chain("filing", 1, 0), 0);
        checks.due("both, of it on the loss", chain("both", 0, 1), 4);
        checks.due("both, of it on the filing", chain("both", 1, 0), 4);
        checks.due("both, of it on both", chain("both", 0, 0), 0);
        checks.due("always, of it on the loss", chain("always", 0, 1), 4);
        checks.due("always, of it on the filing", chain("always", 1, 0), 4);
        checks.due("always, of it on both", chain("always", 0, 0), 0);
        TreatyClaims x = claimed(5, 9, "need ship 0;");
        x.pass(1);
        x.nation(0, 1, 0);
        checks.due("as known on the day ahead", x.fails(0, 0, 9), 0);
        checks.due("as known then", x.fails(0, 0, 10), 4);
        x.nation(0, 0, 9);
        checks.due("untold is both", x.fails(0, 0, 10), 4);
        x.nation(0, 0, 5);
        checks.due("of it on both then", x.fails(0, 0, 10), 0);
    }

    private static void chainAlways() {
        String both = "need ship 0;chain both;";
        String always = "need ship 0;chain always;";
        TreatyClaims x = claimed(5, 9, both);
        Checks.rules(x, 1, always);
        x.nation(0, 1, 7);
        x.nation(0, 0, 8);
        checks.due("both, another for a day between", x.fails(0, 0, 9), 0);
        checks.due("always, another for a day between", x.fails(0, 1, 9), 4);
        x.nation(0, 0, 7);
        checks.due("always, told anew", x.fails(0, 1, 9), 0);
        x.nation(0, 1, 10);
        checks.due("always, another behind the filing", x.fails(0, 1, 9), 0);
        x.nation(0, 1, 9);
        checks.due("always, another on the filing", x.fails(0, 1, 9), 4);
        x.nation(0, 0, 9);
        x.nation(0, 1, 4);
        checks.due("always, another from ahead of the loss on", x.fails(0, 1, 9), 4);
        x.nation(0, 0, 5);
        checks.due("always, back on the loss", x.fails(0, 1, 9), 0);
        x.pass(1);
        x.nation(0, 2, 6);
        checks.due("always, as known on the day ahead", x.fails(0, 1, 9), 0);
        checks.due("always, as known then", x.fails(0, 1, 10), 4);
    }

    private static void points() {
        TreatyClaims x = claimed(0, 0, "weigh deed 6;weigh oath 3;need ship 9;");
        checks.due("none", x.points(0, 0, 0), 0);
        Checks.paper(x, 0, NONE, 0, "deed");
        Checks.paper(x, 0, NONE, 0, "deed");
        Checks.paper(x, 0, NONE, 0, "song");
        checks.due("unlike kinds alone", x.points(0, 0, 0), 6);
        checks.due("below need", x.fails(0, 0, 0), 8);
        x.pass(3);
        Checks.paper(x, 0, 1, 5, "oath");
        checks.due("with another", x.points(0, 0, 3), 9);
        checks.due("as known ahead of it", x.points(0, 0, 2), 6);
        checks.due("proven", x.fails(0, 0, 3), 0);
        checks.due("by another version", x.points(0, 1, 3), 0);
        x.pass(1);
        x.dead(1, 5);
        checks.due("forged", x.points(0, 0, 4), 6);
        checks.due("as known ahead of that", x.points(0, 0, 3), 9);
        checks.due("fails then", x.fails(0, 0, 4), 8);
        Checks.paper(x, 0, 1, 4, "oath");
        checks.due("one that isn't forged", x.points(0, 0, 4), 9);
        Checks.claim(x, 0, 0, 0, 1, "ship");
        checks.due("another claim has papers of its own", x.points(1, 0, 4), 0);
    }

    private static void demands() {
        TreatyClaims x = claimed(0, 0, "need ship 0;must ship oath;either ship deed bill;must house song;");
        checks.due("neither", x.fails(0, 0, 0), 16);
        Checks.paper(x, 0, NONE, 0, "bill");
        checks.due("the either alone", x.fails(0, 0, 0), 16);
        Checks.paper(x, 0, NONE, 0, "oath");
        checks.due("both", x.fails(0, 0, 0), 0);
        TreatyClaims y = claimed(0, 0, "need ship 0;must ship oath;either ship deed bill;");
        Checks.paper(y, 0, NONE, 0, "oath");
        checks.due("the must alone", y.fails(0, 0, 0), 16);
        Checks.paper(y, 0, 1, 7, "deed");
        checks.due("with the first of the either", y.fails(0, 0, 0), 0);
        y.pass(1);
        y.dead(1, 7);
        checks.due("which is forged", y.fails(0, 0, 1), 16);
        checks.due("as known ahead", y.fails(0, 0, 0), 0);
        checks.due("all at once", claimed(5, 9, "bar 0;days 0 0;chain loss;must ship a;").fails(0, 0, 9), 27);
    }

    private static void lacks() {
        checks.due("none lack", claimed(0, 0, "need ship 0;weigh a 5;").lacks(0, 0, 0), 0);
        checks.due("no set would do", claimed(0, 0, "need ship 6;weigh a 5;").lacks(0, 0, 0), NONE);
        checks.due("no kinds", claimed(0, 0, "").lacks(0, 0, 0), NONE);
        checks.due("the one", claimed(0, 0, "need ship 5;weigh a 4;weigh b 5;").lacks(0, 0, 0), 2);
        checks.due("fewest ahead of least", claimed(0, 0, "need ship 5;weigh a 2;weigh b 3;weigh c 5;").lacks(0, 0, 0), 4);
        checks.due("the least of as many", claimed(0, 0, "need ship 5;weigh a 2;weigh b 3;weigh c 3;").lacks(0, 0, 0), 3);
        checks.due("without the heaviest", claimed(0, 0, "need ship 6;weigh a 3;weigh b 3;weigh c 4;").lacks(0, 0, 0), 3);
        checks.due("a must", claimed(0, 0, "need ship 0;weigh a 2;must ship b;").lacks(0, 0, 0), 2);
        checks.due("a must of another W", claimed(0, 0, "need ship 0;weigh a 2;must house b;").lacks(0, 0, 0), 0);
        checks.due("an either", claimed(0, 0, "need ship 0;either ship a b;").lacks(0, 0, 0), 1);
        checks.due("an either and a must", claimed(0, 0, "need ship 0;either ship a b;must ship b;").lacks(0, 0, 0), 2);
        checks.due("two eithers", claimed(0, 0, "need ship 0;either ship a b;either ship b c;").lacks(0, 0, 0), 2);
        checks.due("one for two eithers, ahead of a lesser set of two", claimed(0, 0,
            "weigh a 1;weigh b 1;weigh d 1;need ship 0;either ship a d;either ship b d;").lacks(0, 0, 0), 4);
        checks.due("two eithers and points",
            claimed(0, 0, "need ship 9;either ship a b;either ship c b;weigh a 5;weigh c 4;").lacks(0, 0, 0), 5);
        TreatyClaims x = claimed(0, 0, "need ship 5;weigh a 2;weigh b 3;weigh c 5;");
        x.pass(1);
        Checks.paper(x, 0, 1, 9, "b");
        checks.due("with b", x.lacks(0, 0, 1), 1);
        checks.due("as known ahead of it", x.lacks(0, 0, 0), 4);
        x.pass(1);
        x.dead(1, 9);
        checks.due("with b forged", x.lacks(0, 0, 2), 4);
        x.withdraw(0);
        checks.due("of a withdrawn one", x.lacks(0, 0, 1), 1);
    }

    /** Sixteen kinds, where a search through all sets would be long. */
    private static void lacksOfMany() {
        StringBuilder text = new StringBuilder();
        for (int i = 0; i < 16; i++) {
            text.append("weigh ").append((char) ('a' + i)).append(i == 15 ? " 20;" : " 10;");
        }
        checks.due("the heaviest is wanted", claimed(0, 0, text + "need ship 80;").lacks(0, 0, 0), 0x803f);
        checks.due("all are wanted", claimed(0, 0, text + "need ship 170;").lacks(0, 0, 0), 0xffff);
        checks.due("all don't do", claimed(0, 0, text + "need ship 171;").lacks(0, 0, 0), NONE);
        StringBuilder pairs = new StringBuilder("need ship 0;");
        for (int i = 0; i < 8; i++) {
            pairs.append("either ship ").append((char) ('a' + i)).append(' ').append((char) ('i' + i)).append(';');
        }
        checks.due("one of each pair", claimed(0, 0, pairs.toString()).lacks(0, 0, 0), 0x5555);
    }

    private static void weakest() {
        TreatyClaims x = claimed(0, 0, "weigh a 5;weigh b 5;weigh c 1;need ship 10;");
        checks.due("not proven", x.weakest(0, 0, 0), NONE);
        Checks.paper(x, 0, NONE, 0, "b");
        Checks.paper(x, 0, NONE, 0, "a");
        checks.due("both are", x.weakest(0, 0, 0), 0);
        x.pass(1);
        Checks.rules(x, 0, "weigh a 5;weigh b 5;weigh c 6;need ship 10;");
        Checks.paper(x, 0, NONE, 0, "c");
        checks.due("c alone is", x.weakest(0, 0, 1), NONE);
        Checks.rules(x, 0, "weigh a 5;weigh b 5;weigh c 9;need ship 12;");
        checks.due("without c it would fail", x.weakest(0, 0, 1), 2);
        checks.due("as known ahead: not proven", x.weakest(0, 0, 0), NONE);
        Checks.rules(x, 0, "weigh a 5;weigh b 5;weigh c 9;need ship 1;must ship b;");
        checks.due("a must", x.weakest(0, 0, 1), 1);
        Checks.rules(x, 0, "need ship 0;either ship a b;");
        checks.due("an either of which both are had", x.weakest(0, 0, 1), NONE);
        Checks.rules(x, 0, "need ship 0;either ship d b;");
        checks.due("an either of which one is had", x.weakest(0, 0, 1), 1);
        x.withdraw(0);
        checks.due("withdrawn", x.weakest(0, 0, 1), NONE);
    }

    private static void beside() {
        TreatyClaims x = Checks.withPersons(1);
        x.thing(0, 0, 5);
        for (int i = 0; i < 3; i++) {
            Checks.claim(x, 0, 0, 0, 1, "ship");
        }
        Checks.claim(x, 0, 0, 0, 1, "house");
        Checks.rules(x, 1, "need ship 0;");
        Checks.rules(x, 2, "need house 0;need ship 4;weigh a 4;");
        Checks.paper(x, 1, NONE, 0, "a");
        checks.due("1 and not 0", x.beside(1, 0), 3);
        checks.due("0 and not 1", x.beside(0, 1), 0);
        checks.due("1 and not 2", x.beside(1, 2), 2);
        checks.due("2 and not 1", x.beside(2, 1), 1);
        checks.due("1 and not 1", x.beside(1, 1), 0);
        x.withdraw(0);
        checks.due("1 and not 2, one withdrawn", x.beside(1, 2), 1);
    }

    private static void withdraw() {
        TreatyClaims x = claimed(0, 0, "need ship 0;split umpire;");
        Checks.claim(x, 0, 0, 0, 1, "ship");
        Checks.claim(x, 0, 0, 0, 1, "ship");
        checks.due("withdraw(0)", x.withdraw(0), 1);
        checks.due("state", x.about(0, 7), 3);
        checks.due("count(23)", x.count(23), 1);
        checks.due("fails", x.fails(0, 0, 0), 32);
        checks.due("fails by another version", x.fails(0, 1, 0), 40);
        checks.due("withdraw(0) again", x.withdraw(0), TreatyClaims.STATE);
        x.vote(1, 1, 0);
        checks.due("withdraw of a split one", x.withdraw(1), TreatyClaims.STATE);
        x.vote(2, 1, 1);
        checks.due("withdraw of a decided one", x.withdraw(2), TreatyClaims.STATE);
        checks.due("due of a withdrawn one", x.due(0), 0);
        checks.due("vote on a withdrawn one", x.vote(0, 0, 0), TreatyClaims.STATE);
    }
}
