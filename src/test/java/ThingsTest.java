/** Promises 21 to 26 and 33: things and their worth, claims, marks, papers. */
public final class ThingsTest {
    private static final Checks checks = new Checks();
    private static final int NONE = TreatyClaims.NONE;
    private static final int RANGE = TreatyClaims.RANGE;
    private static final int FULL = TreatyClaims.FULL;
    private static final int NO_SUCH = -9;

    public static void main(String[] args) {
        things();
        worths();
        claims();
        about();
        marks();
        papers();
        forged();
        ends();
        checks.close("ThingsTest");
    }

    private static void things() {
        TreatyClaims x = new TreatyClaims();
        x.pass(9);
        checks.due("on -1", x.thing(-1, 0, 5), RANGE);
        checks.due("tomorrow", x.thing(10, 0, 5), RANGE);
        checks.due("marks -1", x.thing(0, -1, 5), RANGE);
        checks.due("marks 256", x.thing(0, 256, 5), RANGE);
        checks.due("worth 0", x.thing(0, 0, 0), RANGE);
        checks.due("worth -2", x.thing(0, 0, -2), RANGE);
        checks.due("worth 1000000", x.thing(0, 0, 1000000), RANGE);
        checks.due("thing 0", x.thing(9, 255, 999999), 0);
        checks.due("thing 1", x.thing(0, 7, 1), 1);
        checks.due("day", x.lost(0, 0), 9);
        checks.due("marks", x.lost(0, 1), 255);
        checks.due("worth", x.lost(0, 2), 999999);
        checks.due("told", x.lost(0, 3), 1);
        checks.due("span", x.lost(0, 4), 999999);
        checks.due("span's end", x.lost(0, 5), 999999);
        checks.due("what 6", x.lost(0, 6), NONE);
        checks.due("what -1", x.lost(0, -1), NONE);
        checks.due("no such thing", x.lost(2, 0), NONE);
        checks.due("thing -1", x.lost(-1, 0), NONE);
        for (int i = 2; i < 30; i++) {
            checks.due("thing " + i, x.thing(0, 0, NONE), i);
        }
        checks.due("thing 30", x.thing(0, 0, 5), FULL);
        checks.due("RANGE ahead of FULL", x.thing(10, 0, 5), RANGE);
        checks.due("count(3)", x.count(3), 30);
    }

    private static void worth(TreatyClaims x, int t, int worth, int least, int greatest) {
        checks.due("worth of " + t, x.lost(t, 2), worth);
        checks.due("told of " + t, x.lost(t, 3), 0);
        checks.due("least of " + t, x.lost(t, 4), least);
        checks.due("greatest of " + t, x.lost(t, 5), greatest);
    }

    private static void worths() {
        TreatyClaims x = new TreatyClaims();
        x.thing(0, 0, NONE);
        worth(x, 0, 0, 0, 0);
        x.thing(0, 0, NONE);
        worth(x, 0, 0, 0, 0);
        x.thing(0, 255, 40);
        worth(x, 0, 40, 40, 40);
        x.thing(0, 7, 90);
        worth(x, 0, 90, 90, 90);
        x.thing(0, 128 + 64 + 1, 20);
        worth(x, 0, 20, 20, 90);
        x.thing(0, 14, 70);
        worth(x, 0, 70, 20, 90);
        x.thing(0, 28, 71);
        worth(x, 0, 70, 20, 90);
        x.thing(0, 56, 71);
        worth(x, 0, 71, 20, 90);
        x.thing(0, 1, 5);
        worth(x, 0, 5, 5, 5);
        x.thing(0, 0, 6);
        worth(x, 0, 6, 6, 6);
        worth(x, 1, 6, 6, 6);
        checks.due("a told one keeps its own", x.lost(2, 2), 40);
        TreatyClaims y = new TreatyClaims();
        y.thing(0, 1, 50);
        y.thing(0, 2, 30);
        y.thing(0, 0, NONE);
        worth(y, 2, 30, 30, 50);
        y.thing(0, 1, NONE);
        worth(y, 3, 50, 50, 50);
    }

    private static void claims() {
        TreatyClaims x = Checks.withPersons(2);
        x.thing(0, 0, 5);
        Object[][] wrong = {{"person 2", 2, 0, 0, 0, 0, 1}, {"person -1", -1, 0, 0, 0, 0, 1}, {"nation 4", 0, 4, 0, 0, 0, 1},
            {"nation -1", 0, -1, 0, 0, 0, 1}, {"thing 1", 0, 0, 1, 0, 0, 1}, {"thing -1", 0, 0, -1, 0, 0, 1},
            {"role 4", 0, 0, 0, 4, 0, 1}, {"role -1", 0, 0, 0, -1, 0, 1}, {"currency 4", 0, 0, 0, 0, 4, 1},
            {"currency -1", 0, 0, 0, 0, -1, 1}, {"sum 0", 0, 0, 0, 0, 0, 0}, {"sum 10000000", 0, 0, 0, 0, 0, 10000000}};
        for (Object[] w : wrong) {
            for (String word : new String[] {"ship", "", "two words"}) {
                Checks.write(x, word);
                int got = x.claim((int) w[1], (int) w[2], (int) w[3], (int) w[4], (int) w[5], (int) w[6]);
                checks.due("claim with " + w[0] + " for '" + word + "'", got, RANGE);
            }
        }
        for (String none : new String[] {"", "5", "a b", "a;", "Ship", "abcdefghijklm"}) {
            Checks.write(x, none);
            checks.due("claim for '" + none + "'", x.claim(0, 0, 0, 0, 0, 1), NONE);
        }
        checks.due("no claim so far", x.count(4), 0);
        checks.due("claim 0", Checks.claim(x, 0, 0, 0, 1, "ship"), 0);
        Checks.write(x, " \n abcdefghijkl ");
        checks.due("claim 1", x.claim(1, 3, 0, 3, 3, 9999999), 1);
        checks.due("count(4)", x.count(4), 2);
    }

    private static void about() {
        TreatyClaims x = Checks.withPersons(3);
        x.thing(0, 0, 5);
        x.thing(0, 0, 6);
        x.pass(12);
        Checks.write(x, "ship");
        x.claim(2, 3, 1, 2, 0, 77);
        x.mark(0, 5);
        int[] told = {2, 3, 1, 2, 77, 12, 5, 0, 0, 0, 0, NONE, 0, 0};
        for (int what = 0; what < told.length; what++) {
            checks.due("about(0, " + what + ")", x.about(0, what), told[what]);
        }
        checks.due("about(0, 14)", x.about(0, 14), NO_SUCH);
        checks.due("about(0, -1)", x.about(0, -1), NO_SUCH);
        checks.due("about(1, 0)", x.about(1, 0), NO_SUCH);
        checks.due("about(-1, 0)", x.about(-1, 0), NO_SUCH);
    }

    private static void marks() {
        TreatyClaims x = Checks.withPersons(1);
        x.thing(0, 0, 5);
        checks.due("mark of none", x.mark(0, 0), RANGE);
        Checks.claim(x, 0, 0, 0, 1, "ship");
        checks.due("mark -1", x.mark(0, -1), RANGE);
        checks.due("mark 1024", x.mark(0, 1024), RANGE);
        checks.due("mark 1023", x.mark(0, 1023), 0);
        checks.due("mark 0", x.mark(0, 0), 1023);
        checks.due("mark 8", x.mark(0, 8), 0);
        checks.due("mark of -1", x.mark(-1, 8), RANGE);
    }

    private static void papers() {
        TreatyClaims x = Checks.withPersons(2);
        x.thing(0, 0, 5);
        checks.due("paper of none", Checks.paper(x, 0, NONE, 0, "deed"), RANGE);
        Checks.claim(x, 0, 0, 0, 1, "ship");
        checks.due("by 2", Checks.paper(x, 0, 2, 0, "deed"), RANGE);
        checks.due("by -2", Checks.paper(x, 0, -2, 0, "deed"), RANGE);
        checks.due("of day -1", Checks.paper(x, 0, NONE, -1, "deed"), RANGE);
        checks.due("of day 2000", Checks.paper(x, 0, NONE, 2000, "deed"), RANGE);
        checks.due("RANGE ahead of NONE", Checks.paper(x, 0, NONE, 2000, ""), RANGE);
        checks.due("no word", Checks.paper(x, 0, NONE, 0, "a b"), NONE);
        checks.due("paper 0", Checks.paper(x, 0, NONE, 0, "deed"), 0);
        checks.due("paper 1", Checks.paper(x, 0, 1, 1999, "deed"), 1);
        checks.due("count(5)", x.count(5), 2);
    }

    private static void forged() {
        TreatyClaims x = Checks.withPersons(2);
        x.thing(0, 0, 5);
        Checks.claim(x, 0, 0, 0, 1, "ship");
        Checks.paper(x, 0, 1, 20, "deed");
        Checks.paper(x, 0, 1, 19, "deed");
        Checks.paper(x, 0, NONE, 20, "deed");
        Checks.paper(x, 0, 0, 20, "deed");
        x.pass(30);
        x.dead(1, 20);
        checks.due("on the day of death", x.forged(0, 30), 1);
        checks.due("as known ahead", x.forged(0, 29), 0);
        checks.due("a day ahead", x.forged(1, 30), 0);
        checks.due("issued by none", x.forged(2, 30), 0);
        checks.due("issued by another", x.forged(3, 1999), 0);
        checks.due("paper 4", x.forged(4, 30), RANGE);
        checks.due("paper -1", x.forged(-1, 30), RANGE);
        checks.due("known on 2000", x.forged(0, 2000), RANGE);
        checks.due("known on -1", x.forged(0, -1), RANGE);
    }

    private static void ends() {
        TreatyClaims x = Checks.withPersons(1);
        x.thing(0, 0, 5);
        for (int i = 0; i < 60; i++) {
            checks.due("claim " + i, Checks.claim(x, 0, 0, 0, 1, "ship"), i);
        }
        checks.due("claim 60", Checks.claim(x, 0, 0, 0, 1, "ship"), FULL);
        checks.due("NONE ahead of FULL", Checks.claim(x, 0, 0, 0, 1, ""), NONE);
        checks.due("RANGE ahead of FULL", Checks.claim(x, 1, 0, 0, 1, "ship"), RANGE);
        checks.due("count(4)", x.count(4), 60);
        TreatyClaims y = Checks.withPersons(1);
        y.thing(0, 0, 5);
        Checks.claim(y, 0, 0, 0, 1, "ship");
        for (int i = 0; i < 150; i++) {
            Checks.put(y, "deed");
            checks.due("paper " + i, y.paper(0, NONE, 0), i);
        }
        checks.due("paper 150", Checks.paper(y, 0, NONE, 0, "deed"), FULL);
        checks.due("NONE ahead of FULL", Checks.paper(y, 0, NONE, 0, ""), NONE);
        checks.due("RANGE ahead of FULL", Checks.paper(y, 1, NONE, 0, "deed"), RANGE);
        checks.due("count(5)", y.count(5), 150);
    }
}
