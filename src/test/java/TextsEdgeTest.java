/** The edges of THE TAPE (Terms I) and of RULES (Terms II): TOKENS, bounds, KINDS, FAULTS. A method a sentence. */
public final class TextsEdgeTest {
    private static final Checks checks = new Checks();
    private static final int NONE = TreatyClaims.NONE;
    private static final int RANGE = TreatyClaims.RANGE;
    private static final int NO_SUCH = -9;
    private static final int SYNTAX_FAULT = 1;
    private static final int RANGE_FAULT = 2;
    private static final int TWICE_FAULT = 3;
    private static final int ROOM_FAULT = 4;
    /** Each clause, whole; the first ten can be told once. */
    private static final String[] CLAUSES = {"bar 5;", "days 5 6;", "chain both;", "order owner cargo;", "rate 5 loss;",
        "split least;", "cap 5;", "test 5;", "late 5;", "part 5;", "weigh deed 5;", "need ship 5;", "must ship deed;",
        "either ship deed oath;"};
    private static final int TOLD_ONCE = 10;

    public static void main(String[] args) {
        highestByteFirst();
        endCutsTheTape();
        blanksAreTwo();
        wordsAreSmallLetters();
        wordsOfTwelve();
        numbersAreDigits();
        numbersOfFour();
        textOfSixHundred();
        bounds();
        secondOfDays();
        choices();
        rolesUntold();
        kindsAreNumbered();
        sixteenKinds();
        tenOfEach();
        cutClauses();
        strangeTokens();
        toldTwice();
        rolesTwice();
        mustAndEitherAgain();
        leastKindOfOneToken();
        endIsNoWord();
        firstComeTo();
        faultOfTheLatest();
        faultKeepsTheVersion();
        versionsBesideOneAnother();
        inForceAtFirst();
        ruleNumbers();
        needAndKind();
        checks.close("TextsEdgeTest");
    }

    private static String times(int many, String clause) {
        StringBuilder text = new StringBuilder();
        for (int i = 0; i < many; i++) {
            text.append(clause.replace('#', (char) ('a' + i)));
        }
        return text.toString();
    }

    private static void stands(String text, int clauses) {
        TreatyClaims x = new TreatyClaims();
        checks.due("rules of '" + text + "'", Checks.rules(x, 0, text), clauses);
        checks.due("fault(0) of '" + text + "'", x.fault(0), 0);
        checks.due("fault(1) of '" + text + "'", x.fault(1), NONE);
    }

    /** Promise 2: "Twenty bytes come behind THE TAPE, the highest of each int first". */
    private static void highestByteFirst() {
        TreatyClaims x = new TreatyClaims();
        Checks.rules(x, 0, "must ship abcd;must ship efgh;must ship ijkl;must ship mnop;must ship qrst;");
        int[] words = {0x61626364, 0x65666768, 0x696a6b6c, 0x6d6e6f70, 0x71727374};
        for (int at = 0; at < 5; at++) {
            int[] a = {0x20202020, 0x20202020, 0x20202020, 0x20202020, 0x20202020};
            a[at] = words[at];
            checks.due("feed", x.feed(a[0], a[1], a[2], a[3], a[4]), 20);
            checks.due("the word in int " + at, x.kind(0), at);
        }
        x.feed(0x80808080, -1, 0, 0, 0);
        checks.due("bytes above 127 are none of a TOKEN", x.rules(0), NONE);
        checks.due("the first of them", x.fault(1), 0);
    }

    /** Promise 3: "THE TAPE has its first n bytes alone", and what comes next comes behind them. */
    private static void endCutsTheTape() {
        TreatyClaims x = new TreatyClaims();
        Checks.rules(x, 0, "need abcd 1;need abce 2;need abc 3;");
        x.feed(0x61626364, 0, 0, 0, 0);
        checks.due("end(21)", x.end(21), NONE);
        checks.due("end(-1)", x.end(-1), NONE);
        checks.due("end(MIN)", x.end(Integer.MIN_VALUE), NONE);
        checks.due("end(MAX)", x.end(Integer.MAX_VALUE), NONE);
        checks.due("what was refused cut nothing", x.count(10), 20);
        checks.due("end(20)", x.end(20), 20);
        checks.due("end(3)", x.end(3), 3);
        checks.due("end(4) is too many then", x.end(4), NONE);
        checks.due("feed behind three", x.feed(0x65000000, 0, 0, 0, 0), 23);
        checks.due("end(4)", x.end(4), 4);
        checks.due("need of 'abce'", x.need(0), 2);
        Checks.write(x, "abcd");
        x.end(3);
        checks.due("need of 'abc'", x.need(0), 3);
        Checks.write(x, "abcd");
        checks.due("end(0)", x.end(0), 0);
        checks.due("need of nothing", x.need(0), NONE);
    }

    /** "any blanks (32, 10) between": no other byte is a blank. */
    private static void blanksAreTwo() {
        for (int sign = 0; sign < 256; sign++) {
            char c = (char) sign;
            boolean blank = sign == 32 || sign == 10;
            boolean digit = c >= '0' && c <= '9';
            boolean letter = c >= 'a' && c <= 'z';
            String text = "bar" + c + "5;";
            if (blank || digit) {
                stands(text, 1);
            } else {
                checks.fault(text, SYNTAX_FAULT, letter ? 0 : 3);
            }
            text = "need ship" + c + "5" + c + ";";
            if (blank || digit) {
                stands(text, 1);
            } else {
                checks.fault(text, SYNTAX_FAULT, letter ? 11 : 9);
            }
        }
        stands("need ship5;", 1);
        stands("need\n\n \nship \n5  \n\n ;", 1);
    }

    /** "WORDS (small letters ..)": of all bytes only these are a W. */
    private static void wordsAreSmallLetters() {
        for (int sign = 0; sign < 256; sign++) {
            TreatyClaims x = new TreatyClaims();
            char c = (char) sign;
            boolean letter = c >= 'a' && c <= 'z';
            boolean blank = sign == 32 || sign == 10;
            checks.due("need of byte " + sign, Checks.need(x, 0, "" + c), letter ? 10 : NONE);
            checks.due("need of a and byte " + sign, Checks.need(x, 0, "a" + c), letter || blank ? 10 : NONE);
            checks.due("need of byte " + sign + " and a", Checks.need(x, 0, c + "a"), letter || blank ? 10 : NONE);
        }
    }

    /** "12 at most", "a run that is too long": in a text, and as the W on THE TAPE. */
    private static void wordsOfTwelve() {
        String twelve = "abcdefghijkl";
        stands("weigh " + twelve + " 1;need " + twelve + " 1;must " + twelve + " " + twelve + ";", 3);
        checks.fault("weigh " + twelve + "m 1;", SYNTAX_FAULT, 6);
        checks.fault("need " + twelve + "m 1;", SYNTAX_FAULT, 5);
        checks.fault("must " + twelve + "m a;", SYNTAX_FAULT, 5);
        checks.fault("must a " + twelve + "m;", SYNTAX_FAULT, 7);
        checks.fault("either a b " + twelve + "m;", SYNTAX_FAULT, 11);
        checks.fault(twelve + "m;", SYNTAX_FAULT, 0);
        checks.fault("bar 5;" + twelve + twelve, SYNTAX_FAULT, 6);
        TreatyClaims x = Checks.withPersons(1);
        x.thing(0, 0, 5);
        String[] words = {"a", twelve, twelve + "m", twelve + twelve, twelve.repeat(50)};
        for (String word : words) {
            boolean right = word.length() <= 12;
            checks.due("need of " + word, Checks.need(x, 0, word), right ? 10 : NONE);
            checks.due("kind of " + word, Checks.kind(x, 0, word), NONE);
            checks.due("claim for " + word, Checks.claim(x, 0, 0, 0, 1, word) != NONE ? 1 : 0, right ? 1 : 0);
            checks.due("paper " + word, Checks.paper(x, 0, NONE, 0, word) != NONE ? 1 : 0, right ? 1 : 0);
        }
    }

    /** "N (digits ..)": those next to them are none. */
    private static void numbersAreDigits() {
        for (char c = '0'; c <= '9'; c++) {
            TreatyClaims x = new TreatyClaims();
            checks.due("late " + c, Checks.rules(x, 0, "late " + c + ";"), 1);
            checks.due("late is " + c, x.rule(0, 9), c - '0');
            checks.due("late 1" + c, Checks.rules(x, 0, "late 1" + c + ";"), 1);
            checks.due("late is 1" + c, x.rule(0, 9), 10 + c - '0');
        }
        checks.fault("late /;", SYNTAX_FAULT, 5);
        checks.fault("late :;", SYNTAX_FAULT, 5);
        checks.fault("late 1/;", SYNTAX_FAULT, 6);
        checks.fault("late 1:;", SYNTAX_FAULT, 6);
        checks.fault("late +1;", SYNTAX_FAULT, 5);
        checks.fault("late -1;", SYNTAX_FAULT, 5);
    }

    /** "4 at most": five digits are SYNTAX, though the number itself might be right; four with noughts are fine. */
    private static void numbersOfFour() {
        TreatyClaims x = new TreatyClaims();
        checks.due("bar 0000", Checks.rules(x, 0, "bar 0000;"), 1);
        checks.due("bar is 0", x.rule(0, 0), 0);
        checks.due("bar 0012", Checks.rules(x, 0, "bar 0012;"), 1);
        checks.due("bar is 12", x.rule(0, 0), 12);
        checks.due("cap 9999", Checks.rules(x, 0, "cap 9999;"), 1);
        checks.due("cap is 9999", x.rule(0, 7), 9999);
        checks.fault("bar 00000;", SYNTAX_FAULT, 4);
        checks.fault("bar 00012;", SYNTAX_FAULT, 4);
        checks.fault("cap 10000;", SYNTAX_FAULT, 4);
        checks.fault("bar 99999999999999999999;", SYNTAX_FAULT, 4);
        checks.fault("bar 4294967301;", SYNTAX_FAULT, 4);
        checks.fault("days 1 00002;", SYNTAX_FAULT, 7);
        checks.fault("weigh deed 00005;", SYNTAX_FAULT, 11);
        checks.fault("need ship 00005;", SYNTAX_FAULT, 10);
        checks.fault("rate 00005 loss;", SYNTAX_FAULT, 5);
    }

    /** "THE TAPE has at most 600 bytes": a text that ends with the last of them, and one that doesn't. */
    private static void textOfSixHundred() {
        String blanks = " ".repeat(594);
        stands(blanks + "bar 5;", 1);
        checks.fault(blanks + "bar 55", SYNTAX_FAULT, 600);
        checks.fault(blanks + "bar  5", SYNTAX_FAULT, 600);
        checks.fault(blanks + "bar5;a", SYNTAX_FAULT, 599);
        checks.fault(blanks + "bar5;;", SYNTAX_FAULT, 599);
        stands("bar 5;" + blanks, 1);
        checks.fault("bar 5 " + blanks, SYNTAX_FAULT, 600);
        TreatyClaims x = new TreatyClaims();
        Checks.write(x, blanks + "bar 5;");
        checks.due("all bytes", x.count(10), 600);
        checks.due("rules", x.rules(0), 1);
        checks.due("no byte behind it", x.count(10), 0);
    }

    /** "Bounds: ..", of each N the last that is right and the first that isn't, on each side. */
    private static void bounds() {
        fits("bar #;", 0, 1999, 0);
        fits("days # 1999;", 0, 1999, 1);
        fits("days 0 #;", 0, 1999, 2);
        fits("weigh deed #;", 1, 99, 30);
        fits("need ship #;", 0, 999, NONE);
        fits("rate # loss;", 0, 99, 4);
        fits("rate # filing;", 0, 99, 4);
        fits("cap #;", 1, 9999, 7);
        fits("test #;", 0, 10, 8);
        fits("late #;", 0, 1999, 9);
        fits("part #;", 1, 100, 10);
    }

    private static void fits(String clause, int least, int most, int what) {
        int place = clause.indexOf('#');
        for (int n : new int[] {least, least + 1, most - 1, most}) {
            TreatyClaims x = new TreatyClaims();
            String text = clause.replace("#", Integer.toString(n));
            checks.due(text, Checks.rules(x, 3, text), 1);
            checks.due("what it told", what == NONE ? Checks.need(x, 3, "ship") : x.rule(3, what), n);
        }
        for (int n : new int[] {least - 1, most + 1, 9999}) {
            if (n >= 0 && n <= 9999 && n != most) {
                checks.fault(clause.replace("#", Integer.toString(n)), RANGE_FAULT, place);
            }
        }
    }

    /** "the second of days not below the first". */
    private static void secondOfDays() {
        stands("days 0 0;", 1);
        stands("days 1999 1999;", 1);
        stands("days 700 700;", 1);
        stands("days 700 701;", 1);
        checks.fault("days 700 699;", RANGE_FAULT, 9);
        checks.fault("days 1 0;", RANGE_FAULT, 7);
        checks.fault("days 1999 1998;", RANGE_FAULT, 10);
        checks.fault("days 1999 2000;", RANGE_FAULT, 10);
        checks.fault("days 2000 1;", RANGE_FAULT, 5);
        checks.fault("days 2000 2000;", RANGE_FAULT, 5);
    }

    /** The words that a clause lets choose among; those of another clause are SYNTAX. */
    private static void choices() {
        String[] all = {"loss", "filing", "both", "always", "least", "mean", "umpire", "owner", "cargo", "lender", "insurer"};
        for (int i = 0; i < all.length; i++) {
            choice("chain #;", 3, all[i], i < 4 ? i : NONE);
            choice("rate 7 #;", 5, all[i], i < 2 ? i : NONE);
            choice("split #;", 6, all[i], i >= 4 && i < 7 ? i - 4 : NONE);
            choice("order #;", 20, all[i], i >= 7 ? i - 7 : NONE);
            choice("order # insurer;", 20, all[i], i >= 7 && i < 10 ? i - 7 : i == 10 ? NO_SUCH : NONE);
        }
    }

    private static void choice(String clause, int what, String word, int want) {
        String text = clause.replace("#", word);
        if (want == NONE) {
            checks.fault(text, SYNTAX_FAULT, clause.indexOf('#'));
        } else if (want == NO_SUCH) {
            checks.fault(text, TWICE_FAULT, text.lastIndexOf(word));
        } else {
            TreatyClaims x = new TreatyClaims();
            checks.due(text, Checks.rules(x, 0, text), 1);
            checks.due("what it told", x.rule(0, what), want);
        }
    }

    /** "Of order ROLES that aren't told come behind, by number": every order of every length. */
    private static void rolesUntold() {
        String[] names = {"owner", "cargo", "lender", "insurer"};
        for (int row = 0; row < 5 * 5 * 5 * 5; row++) {
            int[] told = {row / 125 - 1, row / 25 % 5 - 1, row / 5 % 5 - 1, row % 5 - 1};
            StringBuilder text = new StringBuilder("order");
            StringBuilder want = new StringBuilder();
            boolean right = told[0] != NONE;
            for (int i = 0; i < 4; i++) {
                boolean twice = told[i] != NONE && want.indexOf(Integer.toString(told[i])) >= 0;
                right = right && !twice && !(i > 0 && told[i] != NONE && told[i - 1] == NONE);
                if (told[i] != NONE) {
                    text.append(' ').append(names[told[i]]);
                    want.append(told[i]);
                }
            }
            for (int role = 0; role < 4; role++) {
                want.append(want.indexOf(Integer.toString(role)) < 0 ? Integer.toString(role) : "");
            }
            if (right) {
                TreatyClaims x = new TreatyClaims();
                checks.due(text.toString(), Checks.rules(x, 0, text + ";"), 1);
                for (int i = 0; i < 4; i++) {
                    checks.due("ROLE " + i + " of " + text, x.rule(0, 20 + i), want.charAt(i) - '0');
                }
            }
        }
    }

    /** "KINDS .. are the W's of weigh, and the last ones of must and either; numbered from 0 as they come first". */
    private static void kindsAreNumbered() {
        TreatyClaims x = new TreatyClaims();
        Checks.rules(x, 0, "must ship b;either boat c a;weigh c 4;need house 3;weigh d 5;must d b;either a b e;");
        String[] kinds = {"b", "c", "a", "d", "e"};
        int[] weights = {0, 4, 0, 5, 0};
        checks.due("KINDS", x.rule(0, 11), 5);
        for (int k = 0; k < kinds.length; k++) {
            checks.due("KIND of " + kinds[k], Checks.kind(x, 0, kinds[k]), k);
            checks.due("what it weighs", x.rule(0, 30 + k), weights[k]);
        }
        for (String none : new String[] {"ship", "boat", "house", "weigh", "f"}) {
            checks.due("KIND of " + none, Checks.kind(x, 0, none), NONE);
        }
    }

    /** "at most 16 a text"; "a KIND too many, at its W". */
    private static void sixteenKinds() {
        String sixteen = times(16, "weigh # 1;");
        stands(sixteen, 16);
        stands(sixteen + "must z a;either z p a;need q 5;", 19);
        checks.fault(sixteen + "weigh q 1;", ROOM_FAULT, 166);
        checks.fault(sixteen + "must q q;", ROOM_FAULT, 167);
        checks.fault(sixteen + "either q a q;", ROOM_FAULT, 171);
        checks.fault(sixteen + "either q q a;", ROOM_FAULT, 169);
        checks.fault(times(15, "weigh # 1;") + "either z q r;", ROOM_FAULT, 161);
        stands(times(15, "weigh # 1;") + "either z q q;", 16);
        stands(times(8, "either z #x #y;"), 8);
        TreatyClaims x = new TreatyClaims();
        Checks.rules(x, 0, sixteen);
        checks.due("KINDS", x.rule(0, 11), 16);
        checks.due("the last", Checks.kind(x, 0, "p"), 15);
        checks.due("what it weighs", x.rule(0, 45), 1);
        checks.due("a seventeenth", x.rule(0, 46), NO_SUCH);
        checks.due("one too many", Checks.rules(x, 0, times(17, "weigh # 2;")), NONE);
        checks.due("KINDS as they were", x.rule(0, 45), 1);
    }

    /** "At most 10 must, 10 either, 10 need"; "a clause too many, at its first WORD". */
    private static void tenOfEach() {
        String[] ten = {times(10, "must a b;"), times(10, "either a b c;"), times(10, "need # 5;")};
        String[] more = {"must a b;", "either a b c;", "need z 5;"};
        for (int i = 0; i < 3; i++) {
            stands(ten[i], 10);
            checks.fault(ten[i] + more[i], ROOM_FAULT, ten[i].length());
            String first = more[i].substring(0, more[i].indexOf(' '));
            checks.fault(ten[i] + first, ROOM_FAULT, ten[i].length());
            for (int j = 0; j < 3; j++) {
                if (i != j) {
                    stands(ten[i] + more[j], 11);
                }
            }
        }
        stands(ten[0] + ten[1] + ten[2], 30);
        TreatyClaims x = new TreatyClaims();
        Checks.rules(x, 0, ten[0] + ten[1] + ten[2]);
        checks.due("musts", x.rule(0, 12), 10);
        checks.due("eithers", x.rule(0, 13), 10);
        checks.due("the tenth need", Checks.need(x, 0, "j"), 5);
        checks.due("no eleventh", Checks.need(x, 0, "k"), 10);
    }

    /** "the text's length at its end": each clause cut behind each of its TOKENS, with and without blanks. */
    private static void cutClauses() {
        for (String clause : CLAUSES) {
            String[] tokens = clause.replace(";", " ;").split(" ");
            StringBuilder text = new StringBuilder();
            for (int i = 0; i + 1 < tokens.length; i++) {
                text.append(i == 0 ? "" : " ").append(tokens[i]);
                checks.fault(text.toString(), SYNTAX_FAULT, text.length());
                checks.fault(text + " \n", SYNTAX_FAULT, text.length() + 2);
            }
            stands(text + ";", 1);
            stands(text + " ;\n", 1);
        }
    }

    /** "a TOKEN .. with which no text goes on": each clause with another TOKEN, or a strange byte, in each place. */
    private static void strangeTokens() {
        for (String clause : CLAUSES) {
            String[] tokens = clause.replace(";", " ;").split(" ");
            StringBuilder ahead = new StringBuilder();
            for (int i = 0; i < tokens.length; i++) {
                boolean number = tokens[i].charAt(0) >= '0' && tokens[i].charAt(0) <= '9';
                boolean end = tokens[i].equals(";");
                boolean role = clause.startsWith("order") && i > 1;
                int place = ahead.length();
                if (!number) {
                    checks.fault(ahead + "5", SYNTAX_FAULT, place);
                }
                if (number || end && !role) {
                    checks.fault(ahead + "owner", SYNTAX_FAULT, place);
                }
                if (!end && !role) {
                    checks.fault(ahead + ";", SYNTAX_FAULT, place);
                }
                checks.fault(ahead + "?", SYNTAX_FAULT, place);
                checks.fault(ahead + "aaaaaaaaaaaaa", SYNTAX_FAULT, place);
                checks.fault(ahead + "00005", SYNTAX_FAULT, place);
                ahead.append(tokens[i]).append(' ');
            }
            checks.fault(clause + ";", SYNTAX_FAULT, clause.length());
            checks.fault(clause + "5", SYNTAX_FAULT, clause.length());
            checks.fault(clause + "ship", SYNTAX_FAULT, clause.length());
        }
    }

    /** "TWICE: a clause's first WORD that was told already (of weigh and need the W behind it ..)". */
    private static void toldTwice() {
        for (int i = 0; i < TOLD_ONCE; i++) {
            String first = CLAUSES[i].substring(0, CLAUSES[i].indexOf(' '));
            checks.fault(CLAUSES[i] + first, TWICE_FAULT, CLAUSES[i].length());
            checks.fault(CLAUSES[i] + "weigh a 1;" + CLAUSES[i], TWICE_FAULT, CLAUSES[i].length() + 10);
            for (int j = 0; j < CLAUSES.length; j++) {
                if (i != j) {
                    stands(CLAUSES[i] + CLAUSES[j], 2);
                }
            }
        }
        checks.fault("weigh a 1;weigh a", TWICE_FAULT, 16);
        checks.fault("weigh a 1;weigh b 1;weigh b 1;", TWICE_FAULT, 26);
        checks.fault("need a 0;need a", TWICE_FAULT, 14);
        checks.fault("need a 1;need b 1;need b 1;", TWICE_FAULT, 23);
        stands("weigh a 1;need a 1;weigh b 1;need b 1;", 4);
        stands("must z a;either z a b;weigh a 1;weigh b 1;weigh z 1;", 5);
    }

    /** "of order also a ROLE that it told". */
    private static void rolesTwice() {
        checks.fault("order owner owner;", TWICE_FAULT, 12);
        checks.fault("order insurer insurer", TWICE_FAULT, 14);
        checks.fault("order cargo lender cargo", TWICE_FAULT, 19);
        stands("order owner cargo lender insurer;", 1);
        checks.fault("order owner cargo lender insurer lender;", TWICE_FAULT, 33);
        checks.fault("order owner cargo lender insurer ship;", SYNTAX_FAULT, 33);
        checks.fault("order owner;order cargo;", TWICE_FAULT, 12);
    }

    /** "must and either may be told again". */
    private static void mustAndEitherAgain() {
        stands("must ship deed;must ship deed;", 2);
        stands("either ship deed oath;either ship deed oath;", 2);
        stands("either ship deed deed;", 1);
        stands("must deed deed;", 1);
    }

    /** "of one TOKEN the least KIND". */
    private static void leastKindOfOneToken() {
        String sixteen = times(16, "weigh # 1;");
        checks.fault(sixteen + "weigh p", TWICE_FAULT, 166);
        checks.fault(sixteen + "weigh aaaaaaaaaaaaa", SYNTAX_FAULT, 166);
        checks.fault(sixteen + "must a 5", SYNTAX_FAULT, 167);
        checks.fault("bar 20000;", SYNTAX_FAULT, 4);
        checks.fault("days 9 00001;", SYNTAX_FAULT, 7);
    }

    /** Where the text ends instead of a W that was told, or has no room, there is SYNTAX alone. */
    private static void endIsNoWord() {
        checks.fault("weigh weigh 5;weigh", SYNTAX_FAULT, 19);
        checks.fault("need need 5;need", SYNTAX_FAULT, 16);
        checks.fault("weigh a 5;weigh", SYNTAX_FAULT, 15);
        checks.fault("order owner;weigh a 5;bar", SYNTAX_FAULT, 25);
        String sixteen = times(16, "weigh # 1;");
        checks.fault(sixteen + "weigh", SYNTAX_FAULT, 165);
        checks.fault(sixteen + "must ", SYNTAX_FAULT, 165);
        checks.fault(sixteen + "must z", SYNTAX_FAULT, 166);
        checks.fault(sixteen + "either z a", SYNTAX_FAULT, 170);
        checks.fault(sixteen + "weigh;", SYNTAX_FAULT, 165);
        checks.fault(sixteen + "weigh 5;", SYNTAX_FAULT, 166);
    }

    /** "the first come to as TOKENS are read one by one". */
    private static void firstComeTo() {
        checks.fault("bar 2000 ?", RANGE_FAULT, 4);
        checks.fault("bar 2000", RANGE_FAULT, 4);
        checks.fault("days 2000 1;", RANGE_FAULT, 5);
        checks.fault("need a 1;need a 1000;", TWICE_FAULT, 14);
        checks.fault("weigh a 1;weigh a 100;", TWICE_FAULT, 16);
        checks.fault("weigh a 100;weigh a 1;", RANGE_FAULT, 8);
        checks.fault("bar 5;bar 2000;", TWICE_FAULT, 6);
        checks.fault("cap 0;;", RANGE_FAULT, 4);
        checks.fault("cap 5;;cap 0;", SYNTAX_FAULT, 6);
        checks.fault(times(10, "need # 5;") + "need a 5;", ROOM_FAULT, 90);
        checks.fault(times(10, "must a b;") + "must 5", ROOM_FAULT, 90);
        checks.fault(times(16, "weigh # 1;") + "weigh q 100;", ROOM_FAULT, 166);
        checks.fault(times(16, "weigh # 1;") + "either q r 5;", ROOM_FAULT, 169);
    }

    /** Promise 16: "Of the latest rules() that was not RANGE .. 0 without (and ahead of any) .. NONE for another what". */
    private static void faultOfTheLatest() {
        TreatyClaims x = new TreatyClaims();
        faults("ahead of any", x, 0, NONE);
        Checks.rules(x, 4, "bar");
        faults("behind one that was RANGE, ahead of any", x, 0, NONE);
        Checks.rules(x, 0, "bar 1;bar");
        faults("TWICE", x, TWICE_FAULT, 6);
        for (int v : new int[] {Integer.MIN_VALUE, -1, 4, Integer.MAX_VALUE}) {
            checks.due("rules(" + v + ")", Checks.rules(x, v, "cap 0;"), RANGE);
            faults("behind one that was RANGE", x, TWICE_FAULT, 6);
            checks.due("its bytes are gone", x.count(10), 0);
        }
        Checks.rules(x, 3, "cap 0;");
        faults("of another VERSION", x, RANGE_FAULT, 4);
        Checks.rules(x, 0, "cap 1;");
        faults("without", x, 0, NONE);
    }

    private static void faults(String when, TreatyClaims x, int kind, int place) {
        checks.due(when + ": fault(0)", x.fault(0), kind);
        checks.due(when + ": fault(1)", x.fault(1), place);
        for (int what : new int[] {Integer.MIN_VALUE, -1, 2, Integer.MAX_VALUE}) {
            checks.due(when + ": fault(" + what + ")", x.fault(what), NONE);
        }
    }

    /** Promise 15: "NONE with a FAULT (it stays as it was)", wherever the FAULT is. */
    private static void faultKeepsTheVersion() {
        String all = String.join("", CLAUSES);
        String other = "bar 1;days 2 3;chain loss;order insurer;rate 4 filing;split umpire;cap 6;test 7;late 8;part 9;"
            + "weigh bond 10;need boat 11;must boat bond;must boat song;either boat bond bill;";
        for (String fault : new String[] {"?", "bar 1;", "cap 0;", "weigh", "need boat 5;"}) {
            TreatyClaims x = new TreatyClaims();
            Checks.rules(x, 1, all);
            checks.due("with a FAULT at its end", Checks.rules(x, 1, other + fault), NONE);
            int[] told = {5, 5, 6, 2, 5, 0, 0, 5, 5, 5, 5, 2, 1, 1};
            for (int what = 0; what < told.length; what++) {
                checks.due("rule(1, " + what + ")", x.rule(1, what), told[what]);
            }
            for (int i = 0; i < 4; i++) {
                checks.due("ROLE " + i, x.rule(1, 20 + i), i);
            }
            checks.due("what KIND 0 weighs", x.rule(1, 30), 5);
            checks.due("KIND of deed", Checks.kind(x, 1, "deed"), 0);
            checks.due("KIND of bond", Checks.kind(x, 1, "bond"), NONE);
            checks.due("need of ship", Checks.need(x, 1, "ship"), 5);
            checks.due("need of boat", Checks.need(x, 1, "boat"), 10);
        }
    }

    /** "RULES in VERSIONS 0 .. 3": each is a text of its own. */
    private static void versionsBesideOneAnother() {
        TreatyClaims x = new TreatyClaims();
        for (int round = 0; round < 3; round++) {
            for (int v = 0; v < 4; v++) {
                int bar = 10 * round + v;
                checks.due("rules(" + v + ")", Checks.rules(x, v, "bar " + bar + ";need ship " + (bar + 100) + ";"), 2);
                for (int w = 0; w < 4; w++) {
                    int want = w <= v ? 10 * round + w : round == 0 ? 1999 : 10 * (round - 1) + w;
                    checks.due("bar of " + w, x.rule(w, 0), want);
                }
            }
        }
        for (int v = 0; v < 4; v++) {
            checks.due("need by " + v, Checks.need(x, v, "ship"), 120 + v);
        }
    }

    /** "One VERSION is IN FORCE (0 at first)"; promise 17. */
    private static void inForceAtFirst() {
        TreatyClaims x = new TreatyClaims();
        checks.due("count(9)", x.count(9), 0);
        for (int v : new int[] {Integer.MIN_VALUE, -1, 4, Integer.MAX_VALUE}) {
            checks.due("force(" + v + ")", x.force(v), RANGE);
            checks.due("count(9) as it was", x.count(9), 0);
        }
        checks.due("force(0)", x.force(0), 0);
        checks.due("force(3)", x.force(3), 0);
        checks.due("force(4)", x.force(4), RANGE);
        checks.due("force(0) again", x.force(0), 3);
    }

    /** Promise 18: "-9 when there is none such": the numbers between and beyond those that there are. */
    private static void ruleNumbers() {
        TreatyClaims x = new TreatyClaims();
        Checks.rules(x, 0, "weigh deed 7;weigh oath 8;");
        for (int what = -20; what < 70; what++) {
            boolean such = what >= 0 && what <= 13 || what >= 20 && what <= 23 || what == 30 || what == 31;
            checks.due("rule(0, " + what + ") is such", x.rule(0, what) != NO_SUCH ? 1 : 0, such ? 1 : 0);
            boolean untold = what >= 0 && what <= 13 || what >= 20 && what <= 23;
            checks.due("rule(1, " + what + ") is such", x.rule(1, what) != NO_SUCH ? 1 : 0, untold ? 1 : 0);
            checks.due("rule(-1, " + what + ")", x.rule(-1, what), NO_SUCH);
            checks.due("rule(4, " + what + ")", x.rule(4, what), NO_SUCH);
        }
        checks.due("rule(0, MIN)", x.rule(0, Integer.MIN_VALUE), NO_SUCH);
        checks.due("rule(0, MAX)", x.rule(0, Integer.MAX_VALUE), NO_SUCH);
        checks.due("cap without", x.rule(0, 7), NONE);
    }

    /** Promises 19 and 20: "it is no W" where there is more or less than one WORD. */
    private static void needAndKind() {
        TreatyClaims x = new TreatyClaims();
        Checks.rules(x, 2, "need ship 0;need boat 999;weigh ship 1;");
        checks.due("need of ship", Checks.need(x, 2, "ship"), 0);
        checks.due("need of boat", Checks.need(x, 2, "boat"), 999);
        checks.due("need that isn't told", Checks.need(x, 2, "house"), 10);
        checks.due("kind of ship", Checks.kind(x, 2, "ship"), 0);
        checks.due("kind of boat", Checks.kind(x, 2, "boat"), NONE);
        String[] none = {"ship;", "ship ship", "ship 5", "5 ship", "5", ";", "; ship", "Ship", "ship.", "shi" + (char) 0};
        for (String text : none) {
            checks.due("need of '" + text + "'", Checks.need(x, 2, text), NONE);
            checks.due("kind of '" + text + "'", Checks.kind(x, 2, text), NONE);
            checks.due("bytes then", x.count(10), 0);
        }
        for (int v : new int[] {Integer.MIN_VALUE, -1, 4, Integer.MAX_VALUE}) {
            checks.due("need by " + v, Checks.need(x, v, "ship"), RANGE);
            checks.due("kind by " + v, Checks.kind(x, v, "ship"), RANGE);
            checks.due("bytes then", x.count(10), 0);
        }
    }
}
