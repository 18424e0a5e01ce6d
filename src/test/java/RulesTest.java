/** Promises 15 to 20: rules, their faults, what they say. */
public final class RulesTest {
    private static final Checks checks = new Checks();
    private static final int NONE = TreatyClaims.NONE;
    private static final int RANGE = TreatyClaims.RANGE;
    private static final int NO_SUCH = -9;
    private static final int[] UNTOLD = {1999, 0, 1999, 2, 0, 0, 1, NONE, 0, 0, 100, 0, 0, 0};

    public static void main(String[] args) {
        untold();
        everyClause();
        bounds();
        orders();
        kinds();
        nearWords();
        syntaxFaults();
        cutTexts();
        rangeFaults();
        twiceFaults();
        roomFaults();
        faultsChangeNothing();
        force();
        words();
        checks.close("RulesTest");
    }

    private static void isUntold(String when, TreatyClaims x, int v) {
        for (int what = 0; what < UNTOLD.length; what++) {
            checks.due(when + ": rule(" + v + ", " + what + ")", x.rule(v, what), UNTOLD[what]);
        }
        for (int i = 0; i < 4; i++) {
            checks.due(when + ": role " + i, x.rule(v, 20 + i), i);
        }
        for (int what : new int[] {-1, 14, 19, 24, 29, 30, 46, Integer.MIN_VALUE, Integer.MAX_VALUE}) {
            checks.due(when + ": rule(" + v + ", " + what + ")", x.rule(v, what), NO_SUCH);
        }
    }

    private static void untold() {
        TreatyClaims x = new TreatyClaims();
        for (int v = 0; v < 4; v++) {
            isUntold("ahead of any text", x, v);
        }
        checks.due("rule(-1, 0)", x.rule(-1, 0), NO_SUCH);
        checks.due("rule(4, 0)", x.rule(4, 0), NO_SUCH);
        String all = "bar 7;days 3 9;chain always;rate 12 filing;split umpire;cap 55;test 4;late 30;part 25;"
            + "order insurer cargo;weigh a 8;weigh b 9;need b 4;must x c;either x b d;";
        for (int i = 0; i < 3; i++) {
            checks.due("all clauses", Checks.rules(x, 1, all), 15);
        }
        for (int i = 0; i < 3; i++) {
            checks.due("no clause", Checks.rules(x, 1, " \n "), 0);
            isUntold("behind an empty text", x, 1);
            checks.due("kinds are gone", Checks.kind(x, 1, "a"), NONE);
            checks.due("needs are gone", Checks.need(x, 1, "b"), 10);
        }
        for (int i = 0; i < 3; i++) {
            Checks.rules(x, 1, "must x c;weigh d 1;must x e;");
            checks.due("an untold weight", x.rule(1, 30), 0);
            checks.due("a told weight", x.rule(1, 31), 1);
            checks.due("another untold weight", x.rule(1, 32), 0);
        }
    }

    private static void everyClause() {
        TreatyClaims x = new TreatyClaims();
        int clauses = Checks.rules(x, 2, "bar 7;days 3 9;chain always;rate 12 filing;split umpire;cap 55;test 4;"
            + "late 30;part 25;order cargo;weigh a 8;weigh b 9;need a 0;must x c;either x b d;");
        checks.due("fifteen clauses", clauses, 15);
        checks.due("no fault", x.fault(0), 0);
        checks.due("no place", x.fault(1), NONE);
        int[] told = {7, 3, 9, 3, 12, 1, 2, 55, 4, 30, 25, 4, 1, 1};
        for (int what = 0; what < told.length; what++) {
            checks.due("rule(2, " + what + ")", x.rule(2, what), told[what]);
        }
        checks.due("weight of a", x.rule(2, 30), 8);
        checks.due("weight of b", x.rule(2, 31), 9);
        checks.due("weight of c", x.rule(2, 32), 0);
        checks.due("weight of d", x.rule(2, 33), 0);
        checks.due("no fifth kind", x.rule(2, 34), NO_SUCH);
        checks.due("another version", x.rule(1, 0), 1999);
        checks.due("rules(-1)", Checks.rules(x, -1, "bar 5;"), RANGE);
        checks.due("rules(4)", Checks.rules(x, 4, "bar 5;"), RANGE);
        choices("chain", 3, "loss filing both always");
        choices("split", 6, "least mean umpire");
        choices("rate 5", 5, "loss filing");
    }

    private static void choices(String clause, int what, String names) {
        String[] all = names.split(" ");
        for (int i = 0; i < all.length; i++) {
            TreatyClaims x = new TreatyClaims();
            checks.due(clause + " " + all[i], Checks.rules(x, 0, clause + " " + all[i] + ";"), 1);
            checks.due(clause + " is " + all[i], x.rule(0, what), i);
        }
    }

    private static void bounds() {
        fits("bar ", "", 0, 1999, 0);
        fits("days ", " 1999", 0, 1999, 1);
        fits("days 0 ", "", 0, 1999, 2);
        fits("days 9 ", "", 9, 1999, 2);
        fits("rate ", " loss", 0, 99, 4);
        fits("cap ", "", 1, 9999, 7);
        fits("test ", "", 0, 10, 8);
        fits("late ", "", 0, 1999, 9);
        fits("part ", "", 1, 100, 10);
        fits("weigh a ", "", 1, 99, 30);
        fits("need a ", "", 0, 999, NONE);
    }

    /** The bounds themselves are fine, what lies beyond is a RANGE fault at the number. */
    private static void fits(String ahead, String behind, int least, int most, int what) {
        for (int n : new int[] {least, most}) {
            TreatyClaims x = new TreatyClaims();
            String text = ahead + n + behind + ";";
            checks.due(text, Checks.rules(x, 0, text), 1);
            checks.due("what " + text + " told", what == NONE ? Checks.need(x, 0, "a") : x.rule(0, what), n);
        }
        if (most < 9999) {
            checks.fault(ahead + (most + 1) + behind + ";", 2, ahead.length());
        } else {
            checks.fault(ahead + (most + 1) + behind + ";", 1, ahead.length());
        }
        if (least > 0) {
            checks.fault(ahead + (least - 1) + behind + ";", 2, ahead.length());
        }
    }

    private static void orders() {
        order("order owner;", 0, 1, 2, 3);
        order("order cargo;", 1, 0, 2, 3);
        order("order insurer;", 3, 0, 1, 2);
        order("order insurer cargo;", 3, 1, 0, 2);
        order("order lender insurer owner;", 2, 3, 0, 1);
        order("order insurer lender cargo owner;", 3, 2, 1, 0);
        order("order lender owner insurer cargo;", 2, 0, 3, 1);
    }

    private static void order(String text, int... roles) {
        TreatyClaims x = new TreatyClaims();
        checks.due(text, Checks.rules(x, 0, text), 1);
        for (int i = 0; i < 4; i++) {
            checks.due(text + " role " + i, x.rule(0, 20 + i), roles[i]);
        }
    }

    private static void kinds() {
        TreatyClaims x = new TreatyClaims();
        Checks.rules(x, 0, "either w b a;must w c;weigh a 5;weigh d 6;need e 3;either b f f;");
        String[] words = {"b", "a", "c", "d", "f"};
        for (int i = 0; i < words.length; i++) {
            checks.due("kind of " + words[i], Checks.kind(x, 0, words[i]), i);
        }
        checks.due("kinds", x.rule(0, 11), 5);
        checks.due("what a claim is for is no kind", Checks.kind(x, 0, "w"), NONE);
        checks.due("what a need is of is no kind", Checks.kind(x, 0, "e"), NONE);
        checks.due("kind by another version", Checks.kind(x, 1, "a"), NONE);
        checks.due("kind(4)", Checks.kind(x, 4, "a"), RANGE);
        checks.due("weight of b", x.rule(0, 30), 0);
        checks.due("weight of a", x.rule(0, 31), 5);
        checks.due("weight of d", x.rule(0, 33), 6);
        checks.due("the clauses' own words can be kinds",
            Checks.rules(x, 3, "weigh weigh 4;must must bar;need need 1;either loss owner owner;"), 4);
        checks.due("kind of weigh", Checks.kind(x, 3, "weigh"), 0);
        checks.due("kind of bar", Checks.kind(x, 3, "bar"), 1);
        checks.due("kind of owner", Checks.kind(x, 3, "owner"), 2);
    }

    /** Words that are near one another are other words all the same. */
    private static void nearWords() {
        String[] words = {"a", "aa", "ab", "ba", "bb", "b", "abc", "acb", "bac", "z", "za", "az", "zz", "y", "aaaaaaaaaaaa",
            "baaaaaaaaaaa"};
        TreatyClaims x = new TreatyClaims();
        StringBuilder text = new StringBuilder();
        for (String word : words) {
            text.append("weigh ").append(word).append(" 1;");
        }
        checks.due("sixteen near words", Checks.rules(x, 0, text.toString()), 16);
        for (int i = 0; i < 16; i++) {
            checks.due("kind of " + words[i], Checks.kind(x, 0, words[i]), i);
        }
        for (char one = 'a'; one <= 'z'; one++) {
            x = new TreatyClaims();
            Checks.rules(x, 0, text.toString());
            for (char other = 'a'; other <= 'z'; other++) {
                String word = "" + one + other;
                int kind = java.util.Arrays.asList(words).indexOf(word);
                checks.due("kind of " + word, Checks.kind(x, 0, word), kind);
            }
        }
    }

    private static void syntaxFaults() {
        checks.fault(";", 1, 0);
        checks.fault("bar", 1, 3);
        checks.fault("bar  \n", 1, 6);
        checks.fault("bar 5", 1, 5);
        checks.fault("bar 5;;", 1, 6);
        checks.fault("bar five;", 1, 4);
        checks.fault("bar 5 6;", 1, 6);
        checks.fault("bare 5;", 1, 0);
        checks.fault("ba r 5;", 1, 0);
        checks.fault("5;", 1, 0);
        checks.fault("Bar 5;", 1, 0);
        checks.fault("bar -5;", 1, 4);
        checks.fault("bar 5,", 1, 5);
        checks.fault("bar\t5;", 1, 3);
        checks.fault("bar 5;" + (char) 0, 1, 6);
        checks.fault("bar 5;" + (char) 233, 1, 6);
        checks.fault("bar 00005;", 1, 4);
        checks.fault("weigh abcdefghijklm 5;", 1, 6);
        checks.fault("abcdefghijklm", 1, 0);
        checks.fault("days 5;", 1, 6);
        checks.fault("chain;", 1, 5);
        checks.fault("chain least;", 1, 6);
        checks.fault("rate loss;", 1, 5);
        checks.fault("rate 5;", 1, 6);
        checks.fault("rate 5 both;", 1, 7);
        checks.fault("split loss;", 1, 6);
        checks.fault("order;", 1, 5);
        checks.fault("order", 1, 5);
        checks.fault("order owner", 1, 11);
        checks.fault("order owner bar;", 1, 12);
        checks.fault("order owner 5;", 1, 12);
        checks.fault("weigh 5 5;", 1, 6);
        checks.fault("weigh a b;", 1, 8);
        checks.fault("need a;", 1, 6);
        checks.fault("must a b c;", 1, 9);
        checks.fault("either a b;", 1, 10);
        checks.fault("either a 5;", 1, 9);
        checks.fault("either ;", 1, 7);
        checks.fault("either 5;", 1, 7);
        checks.fault("must ;", 1, 5);
        checks.fault("must 5;", 1, 5);
        checks.fault("must a;", 1, 6);
        checks.fault("weigh ;", 1, 6);
        checks.fault("need ;", 1, 5);
        checks.fault("need 5;", 1, 5);
        TreatyClaims x = new TreatyClaims();
        checks.due("no blanks but where they must be", Checks.rules(x, 0, "bar5;days3 9;\nrate07loss;"), 3);
        checks.due("bar", x.rule(0, 0), 5);
        checks.due("rate", x.rule(0, 4), 7);
        checks.due("blanks all over", Checks.rules(x, 0, " \n bar \n 0006 \n ; \n "), 1);
        checks.due("bar then", x.rule(0, 0), 6);
        checks.due("twelve letters", Checks.rules(x, 0, "weigh abcdefghijkl 5;"), 1);
        checks.due("kind of them", Checks.kind(x, 0, "abcdefghijkl"), 0);
        checks.due("eleven of them", Checks.kind(x, 0, "abcdefghijk"), NONE);
    }

    /** What stood behind the end is no part of the text. */
    private static void cutTexts() {
        String text = "bar 123;weigh abc 12;";
        for (int end = 0; end <= text.length(); end++) {
            TreatyClaims x = new TreatyClaims();
            Checks.write(x, text);
            x.end(end);
            int clauses = end == 0 ? 0 : end == 8 ? 1 : end == 21 ? 2 : NONE;
            checks.due("the first " + end + " of '" + text + "'", x.rules(0), clauses);
            int place = clauses != NONE ? NONE : end < 3 ? 0 : end > 8 && end < 13 ? 8 : end;
            checks.due("fault(1) of the first " + end, x.fault(1), place);
            Checks.write(x, text);
            x.end(end);
            checks.due("need of the first " + end, x.need(0), end > 0 && end < 5 ? 10 : NONE);
        }
    }

    private static void rangeFaults() {
        checks.fault("days 5 4;", 2, 7);
        checks.fault("days 2000 1;", 2, 5);
        checks.fault("bar 2000", 2, 4);
        checks.fault("cap 0", 2, 4);
        checks.fault("part 101 x", 2, 5);
        TreatyClaims x = new TreatyClaims();
        checks.due("days 4 4", Checks.rules(x, 0, "days 4 4;"), 1);
    }

    private static void twiceFaults() {
        String[] once = {"bar 1;", "days 1 2;", "chain loss;", "order owner;", "rate 1 loss;", "split mean;", "cap 1;",
            "test 1;", "late 1;", "part 1;"};
        for (String clause : once) {
            checks.fault(clause + clause, 3, clause.length());
            checks.fault(clause + "weigh a 1;" + clause.substring(0, clause.indexOf(' ')), 3, clause.length() + 10);
        }
        checks.fault("weigh a 1;weigh b 1;weigh a", 3, 26);
        checks.fault("need a 1;need a 1;", 3, 14);
        checks.fault("order owner cargo owner;", 3, 18);
        checks.fault("order owner cargo lender insurer owner;", 3, 33);
        TreatyClaims x = new TreatyClaims();
        checks.due("must and either again", Checks.rules(x, 0, "must a b;must a b;either a b c;either a b c;"), 4);
        checks.due("musts", x.rule(0, 12), 2);
        checks.due("eithers", x.rule(0, 13), 2);
        checks.due("weigh of a must's kind", Checks.rules(x, 0, "must a b;weigh b 3;need b 3;weigh a 4;"), 4);
    }

    private static String times(int many, String clause) {
        StringBuilder text = new StringBuilder();
        for (int i = 0; i < many; i++) {
            text.append(clause.replace('#', (char) ('a' + i)));
        }
        return text.toString();
    }

    private static void roomFaults() {
        TreatyClaims x = new TreatyClaims();
        checks.due("ten musts", Checks.rules(x, 0, times(10, "must a b;")), 10);
        checks.due("ten eithers", Checks.rules(x, 0, times(10, "either a b c;")), 10);
        checks.due("ten of each", Checks.rules(x, 0, times(10, "must a b;either a b c;need # 1;")), 30);
        checks.due("ten needs", Checks.rules(x, 0, times(10, "need # 1;")), 10);
        checks.due("sixteen kinds", Checks.rules(x, 0, times(16, "weigh # 1;")), 16);
        checks.due("rule(0, 11)", x.rule(0, 11), 16);
        checks.due("rule(0, 45)", x.rule(0, 45), 1);
        checks.due("rule(0, 46)", x.rule(0, 46), NO_SUCH);
        checks.due("sixteen kinds, known ones again", Checks.rules(x, 0, times(16, "weigh # 1;") + "must z p;"), 17);
        checks.fault(times(11, "must a b;"), 4, 90);
        checks.fault(times(10, "must a b;") + "must 5", 4, 90);
        checks.fault(times(11, "either a b c;"), 4, 130);
        checks.fault(times(10, "need # 1;") + "need a 1;", 4, 90);
        checks.fault(times(17, "weigh # 1;"), 4, 166);
        checks.fault(times(16, "weigh # 1;") + "must a q;", 4, 167);
        checks.fault(times(16, "weigh # 1;") + "either a p q;", 4, 171);
        checks.fault(times(16, "weigh # 1;") + "either a q p;", 4, 169);
        checks.fault(times(16, "weigh # 1;") + "weigh a 1;", 3, 166);
    }

    private static void faultsChangeNothing() {
        TreatyClaims x = new TreatyClaims();
        Checks.rules(x, 1, "bar 5;weigh a 4;need b 6;");
        checks.due("a fault at the end", Checks.rules(x, 1, "bar 6;weigh c 4;weigh d 3;need b 7;cap 0;"), NONE);
        checks.due("bar as it was", x.rule(1, 0), 5);
        checks.due("kinds as they were", x.rule(1, 11), 1);
        checks.due("kind of a", Checks.kind(x, 1, "a"), 0);
        checks.due("kind of c", Checks.kind(x, 1, "c"), NONE);
        checks.due("need of b", Checks.need(x, 1, "b"), 6);
        checks.due("fault(0)", x.fault(0), 2);
        checks.due("fault(1)", x.fault(1), 39);
        checks.due("fault(2)", x.fault(2), NONE);
        checks.due("fault(-1)", x.fault(-1), NONE);
        Checks.rules(x, 4, "bar 6;");
        checks.due("fault(0) behind a RANGE", x.fault(0), 2);
        checks.due("fault(1) behind a RANGE", x.fault(1), 39);
        Checks.rules(x, 0, "");
        checks.due("fault(0) without", x.fault(0), 0);
        checks.due("fault(1) without", x.fault(1), NONE);
    }

    private static void force() {
        TreatyClaims x = new TreatyClaims();
        checks.due("force(4)", x.force(4), RANGE);
        checks.due("force(-1)", x.force(-1), RANGE);
        checks.due("force(3)", x.force(3), 0);
        checks.due("count(9)", x.count(9), 3);
        checks.due("force(3) again", x.force(3), 3);
        checks.due("force(1)", x.force(1), 3);
        checks.due("force(0)", x.force(0), 1);
        checks.due("count(9) then", x.count(9), 0);
    }

    private static void words() {
        TreatyClaims x = new TreatyClaims();
        Checks.rules(x, 0, "need ship 999;need a 0;");
        checks.due("need of ship", Checks.need(x, 0, "ship"), 999);
        checks.due("need of a", Checks.need(x, 0, "a"), 0);
        checks.due("need of b", Checks.need(x, 0, "b"), 10);
        checks.due("need by another", Checks.need(x, 1, "ship"), 10);
        checks.due("need(4)", Checks.need(x, 4, "ship"), RANGE);
        checks.due("need(-1) of no word", Checks.need(x, -1, ""), RANGE);
        for (String none : new String[] {"", " ", "7", ";", "a b", "a;", "a7", "Ship", "abcdefghijklm", "a" + (char) 0}) {
            checks.due("need of '" + none + "'", Checks.need(x, 0, none), NONE);
            checks.due("kind of '" + none + "'", Checks.kind(x, 0, none), NONE);
        }
        checks.due("need of ship with blanks", Checks.need(x, 0, "\n ship "), 999);
        checks.due("need of twelve letters", Checks.need(x, 0, "abcdefghijkl"), 10);
    }
}
