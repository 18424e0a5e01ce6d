import java.util.Random;

/** The edges of Terms III: THINGS and LIKES, CLAIMS, PAPERS, WHAT FAILS, LACKS, WEAKEST. A method a sentence. */
public final class ClaimsEdgeTest {
    private static final Checks checks = new Checks();
    private static final int NONE = TreatyClaims.NONE;
    private static final int RANGE = TreatyClaims.RANGE;
    private static final int NO_SUCH = -9;

    public static void main(String[] args) {
        lostNotBehindTheClock();
        thingsBounds();
        likesWithFewestUnlike();
        likesOfNoneToldCountNot();
        worthInTheMiddle();
        span();
        lostNumbers();
        amountIsCut();
        amountAtMost();
        amountOfTheDayOfTheLoss();
        claimBounds();
        marksAtFirst();
        paperBounds();
        forgedOnItsDay();
        forgedAsKnown();
        forgedByTheFirst();
        filedBehindBar();
        lostWithinDays();
        nationOnTheDays();
        nationAlways();
        nationAlwaysAsKnown();
        nationOfEachNumber();
        pointsBelowNeed();
        pointsOfUnlikeKinds();
        pointsOfWhatIsKnown();
        mustAndEither();
        mustAndEitherToldAnew();
        withdrawnFails();
        allBits();
        lacksNothing();
        lacksFewest();
        lacksLeast();
        lacksAllOrNone();
        lacksBesideAllSets();
        weakestIsTheLeast();
        weakestIsNone();
        weakestAsKnown();
        besideCounts();
        aboutNumbers();
        checks.close("ClaimsEdgeTest");
    }

    /** Person 0 claims, as of NATION 0, a ship worth 1000 that was lost on a day, on another one. */
    private static TreatyClaims filed(int lost, int filed, String rules) {
        TreatyClaims x = Checks.withPersons(3);
        Checks.passTo(x, filed);
        x.thing(lost, 0, 1000);
        Checks.claim(x, 0, 0, 0, 100, "ship");
        checks.holds("'" + rules + "' stands", Checks.rules(x, 0, rules) != NONE);
        return x;
    }

    private static TreatyClaims withPapers(String rules, String papers) {
        TreatyClaims x = filed(0, 0, rules);
        for (int i = 0; i < papers.length(); i++) {
            Checks.paper(x, 0, NONE, 0, papers.substring(i, i + 1));
        }
        return x;
    }

    /** Promise 21: "lost on a day (not behind the CLOCK's)". */
    private static void lostNotBehindTheClock() {
        for (int clock : new int[] {0, 1, 1998, 1999}) {
            TreatyClaims x = new TreatyClaims();
            Checks.passTo(x, clock);
            checks.due("on -1", x.thing(-1, 0, 5), RANGE);
            checks.due("tomorrow", x.thing(clock + 1, 0, 5), RANGE);
            checks.due("at the end of int", x.thing(Integer.MAX_VALUE, 0, 5), RANGE);
            checks.due("nothing is lost", x.count(3), 0);
            checks.due("on day 0", x.thing(0, 0, 5), 0);
            checks.due("today", x.thing(clock, 0, 5), 1);
            checks.due("day of the first", x.lost(0, 0), 0);
            checks.due("day of the other", x.lost(1, 0), clock);
        }
    }

    /** "with MARKS (bits 0 .. 255), a told WORTH in pence (1 .. 999999) or none". */
    private static void thingsBounds() {
        TreatyClaims x = new TreatyClaims();
        for (int marks : new int[] {Integer.MIN_VALUE, -1, 256, Integer.MAX_VALUE}) {
            checks.due("MARKS " + marks, x.thing(0, marks, 5), RANGE);
        }
        for (int worth : new int[] {Integer.MIN_VALUE, -2, 0, 1000000, Integer.MAX_VALUE}) {
            checks.due("WORTH " + worth, x.thing(0, 0, worth), RANGE);
        }
        checks.due("the least", x.thing(0, 0, 1), 0);
        checks.due("the greatest", x.thing(0, 255, 999999), 1);
        checks.due("none told", x.thing(0, 0, NONE), 2);
        int[][] want = {{0, 0, 1, 1, 1, 1}, {0, 255, 999999, 1, 999999, 999999}, {0, 0, 1, 0, 1, 1}};
        for (int t = 0; t < 3; t++) {
            for (int what = 0; what < 6; what++) {
                checks.due("lost(" + t + ", " + what + ")", x.lost(t, what), want[t][what]);
            }
        }
    }

    /** "of THINGS with a told WORTH those with the fewest MARKS unlike": from eight unlike to none. */
    private static void likesWithFewestUnlike() {
        TreatyClaims x = new TreatyClaims();
        x.thing(0, 0, NONE);
        for (int unlike = 8; unlike >= 0; unlike--) {
            x.thing(0, (1 << unlike) - 1, 100 + unlike);
            checks.due("one with " + unlike + " unlike", x.lost(0, 2), 100 + unlike);
            checks.due("its SPAN", x.lost(0, 4), 100 + unlike);
            checks.due("its SPAN's end", x.lost(0, 5), 100 + unlike);
        }
        x.thing(0, 1, 1);
        checks.due("one with more unlike than another", x.lost(0, 2), 100);
    }

    /** THINGS without a told WORTH are no LIKES of others, nor of one another. */
    private static void likesOfNoneToldCountNot() {
        TreatyClaims x = new TreatyClaims();
        x.thing(0, 7, NONE);
        x.thing(0, 7, NONE);
        checks.due("WORTH of two alike", x.lost(0, 2), 0);
        x.thing(0, 0, 50);
        checks.due("WORTH of the first", x.lost(0, 2), 50);
        checks.due("WORTH of the other", x.lost(1, 2), 50);
        x.thing(0, 7, 999999);
        checks.due("a told one keeps its own", x.lost(2, 2), 50);
    }

    /** "of theirs, as they rise, that in the middle (the lesser one of two)". */
    private static void worthInTheMiddle() {
        int[] worths = {50, 30, 40, 20, 10, 60, 999999, 1};
        int[] middles = {50, 30, 40, 30, 30, 30, 40, 30};
        TreatyClaims x = new TreatyClaims();
        x.thing(0, 9, NONE);
        for (int i = 0; i < worths.length; i++) {
            x.thing(0, 9, worths[i]);
            checks.due("of " + (i + 1), x.lost(0, 2), middles[i]);
        }
        TreatyClaims y = new TreatyClaims();
        y.thing(0, 0, NONE);
        for (int i = 0; i < 4; i++) {
            y.thing(0, 0, 7);
            checks.due("of alike ones", y.lost(0, 2), 7);
        }
    }

    /** "SPAN: the least and the greatest of them", "(its told WORTH twice)". */
    private static void span() {
        TreatyClaims x = new TreatyClaims();
        x.thing(0, 9, NONE);
        int[] worths = {50, 30, 70, 60, 1, 999999};
        int[] least = {50, 30, 30, 30, 1, 1};
        int[] greatest = {50, 50, 70, 70, 70, 999999};
        for (int i = 0; i < worths.length; i++) {
            x.thing(0, 9, worths[i]);
            checks.due("the least of " + (i + 1), x.lost(0, 4), least[i]);
            checks.due("the greatest of " + (i + 1), x.lost(0, 5), greatest[i]);
            checks.due("a told one's", x.lost(i + 1, 4), worths[i]);
            checks.due("and once more", x.lost(i + 1, 5), worths[i]);
        }
    }

    /** Promise 22: "NONE when there is none such". */
    private static void lostNumbers() {
        TreatyClaims x = new TreatyClaims();
        x.thing(0, 5, 7);
        for (int what : new int[] {Integer.MIN_VALUE, -1, 6, 7, Integer.MAX_VALUE}) {
            checks.due("lost(0, " + what + ")", x.lost(0, what), NONE);
        }
        for (int t : new int[] {Integer.MIN_VALUE, -1, 1, 30, Integer.MAX_VALUE}) {
            for (int what = 0; what < 6; what++) {
                checks.due("lost(" + t + ", " + what + ")", x.lost(t, what), NONE);
            }
        }
    }

    private static int amount(int pence, int sum) {
        TreatyClaims x = Checks.withPersons(1);
        x.thing(0, 0, 5);
        x.rate(1, 0, pence);
        Checks.write(x, "ship");
        return x.about(x.claim(0, 0, 0, 0, 1, sum), 4);
    }

    /** "AMOUNT: that sum times its CURRENCY's RATE .., over 100 (cut ..)". */
    private static void amountIsCut() {
        checks.due("1 at 1", amount(1, 1), 0);
        checks.due("99 at 1", amount(1, 99), 0);
        checks.due("100 at 1", amount(1, 100), 1);
        checks.due("199 at 1", amount(1, 199), 1);
        checks.due("1 at 99", amount(99, 1), 0);
        checks.due("1 at 100", amount(100, 1), 1);
        checks.due("1 at 101", amount(101, 1), 1);
        checks.due("1 at 99999", amount(99999, 1), 999);
        checks.due("3 at 50", amount(50, 3), 1);
    }

    /** "999999 at most": also where the product is far beyond an int. */
    private static void amountAtMost() {
        checks.due("999998", amount(100, 999998), 999998);
        checks.due("999999", amount(100, 999999), 999999);
        checks.due("1000000", amount(100, 1000000), 999999);
        checks.due("9999999", amount(100, 9999999), 999999);
        checks.due("9999999 at 10", amount(10, 9999999), 999999);
        checks.due("9999999 at 9", amount(9, 9999999), 899999);
        checks.due("9999999 at 99999", amount(99999, 9999999), 999999);
        checks.due("42950 at 99999", amount(99999, 42950), 999999);
        checks.due("1000 at 99999", amount(99999, 1000), 999990);
        checks.due("1001 at 99999", amount(99999, 1001), 999999);
    }

    /** "RATE for the day of the loss, as it is when it is FILED". */
    private static void amountOfTheDayOfTheLoss() {
        TreatyClaims x = Checks.withPersons(1);
        x.pass(9);
        x.thing(5, 0, 5);
        x.rate(1, 6, 900);
        Checks.write(x, "ship");
        checks.due("claim 0", x.claim(0, 0, 0, 0, 1, 100), 0);
        x.rate(1, 5, 700);
        Checks.write(x, "ship");
        checks.due("claim 1", x.claim(0, 0, 0, 0, 1, 100), 1);
        x.rate(1, 4, 800);
        checks.due("ahead of any RATE for the day", x.about(0, 4), 100);
        checks.due("by the one told for it", x.about(1, 4), 700);
    }

    /** Promise 23: "RANGE: no such person, NATION, THING, ROLE, CURRENCY, sum"; each call empties THE TAPE. */
    private static void claimBounds() {
        TreatyClaims x = Checks.withPersons(2);
        x.thing(0, 0, 5);
        x.thing(0, 0, 5);
        int[] most = {1, 3, 1, 3, 3, 9999999};
        int[] least = {0, 0, 0, 0, 0, 1};
        for (int i = 0; i < 6; i++) {
            for (int wrong : new int[] {Integer.MIN_VALUE, least[i] - 1, most[i] + 1, Integer.MAX_VALUE}) {
                int[] a = least.clone();
                a[i] = wrong;
                Checks.write(x, "ship");
                checks.due("number " + i + " is " + wrong, x.claim(a[0], a[1], a[2], a[3], a[4], a[5]), RANGE);
                checks.due("bytes then", x.count(10), 0);
            }
        }
        checks.due("no claim", x.count(4), 0);
        Checks.write(x, "a");
        checks.due("all at their least", x.claim(0, 0, 0, 0, 0, 1), 0);
        Checks.write(x, "abcdefghijkl");
        checks.due("all at their most", x.claim(1, 3, 1, 3, 3, 9999999), 1);
        int[] want = {1, 3, 1, 3, 999999, 0, 0, 0};
        for (int what = 0; what < want.length; what++) {
            checks.due("about(1, " + what + ")", x.about(1, what), want[what]);
        }
    }

    /** "with MARKS (0 .. 1023; 0 at first)"; promise 24: "those that it had". */
    private static void marksAtFirst() {
        TreatyClaims x = filed(0, 0, "");
        checks.due("at first", x.about(0, 6), 0);
        for (int marks : new int[] {Integer.MIN_VALUE, -1, 1024, Integer.MAX_VALUE}) {
            checks.due("mark " + marks, x.mark(0, marks), RANGE);
            checks.due("as they were", x.about(0, 6), 0);
        }
        checks.due("mark 1023", x.mark(0, 1023), 0);
        checks.due("mark 1024 then", x.mark(0, 1024), RANGE);
        checks.due("mark 0", x.mark(0, 0), 1023);
        checks.due("mark 0 again", x.mark(0, 0), 0);
        x.withdraw(0);
        checks.due("of one that isn't OPEN", x.mark(0, 5), 0);
        checks.due("those", x.about(0, 6), 5);
    }

    /** Promise 25: "of a day (0 .. 1999), issued by one (NONE: by none)". */
    private static void paperBounds() {
        TreatyClaims x = filed(0, 0, "");
        int[][] wrong = {{1, 0, 0}, {-1, 0, 0}, {0, 3, 0}, {0, -2, 0}, {0, 0, 2000}, {0, 0, -1},
            {0, Integer.MIN_VALUE, 0}, {0, Integer.MAX_VALUE, 0}};
        for (int[] w : wrong) {
            checks.due("paper(" + w[0] + ", " + w[1] + ", " + w[2] + ")", Checks.paper(x, w[0], w[1], w[2], "deed"), RANGE);
            checks.due("bytes then", x.count(10), 0);
        }
        checks.due("no paper", x.count(5), 0);
        checks.due("day 0, by none", Checks.paper(x, 0, NONE, 0, "deed"), 0);
        checks.due("day 1999, by the last", Checks.paper(x, 0, 2, 1999, "deed"), 1);
        checks.due("by the first", Checks.paper(x, 0, 0, 1999, "deed"), 2);
        x.withdraw(0);
        checks.due("of one that isn't OPEN", Checks.paper(x, 0, NONE, 0, "deed"), 3);
    }

    /** "FORGED ..: its issuer was DEAD on its day". */
    private static void forgedOnItsDay() {
        for (int death : new int[] {0, 1, 1998, 1999}) {
            TreatyClaims x = filed(0, 0, "");
            x.dead(1, death);
            int k = 0;
            for (int day : new int[] {0, 1, 1998, 1999}) {
                Checks.paper(x, 0, 1, day, "deed");
                Checks.paper(x, 0, 2, day, "deed");
                Checks.paper(x, 0, NONE, day, "deed");
                checks.due("dead from " + death + ", of " + day, x.forged(k, 0), day >= death ? 1 : 0);
                checks.due("by another", x.forged(k + 1, 0), 0);
                checks.due("by none", x.forged(k + 2, 0), 0);
                k += 3;
            }
        }
    }

    /** "FORGED as KNOWN on a day": by when the death was told, whenever the PAPER came. */
    private static void forgedAsKnown() {
        TreatyClaims x = filed(0, 5, "weigh deed 3;");
        Checks.paper(x, 0, 1, 5, "deed");
        x.pass(1);
        x.dead(1, 5);
        x.pass(1);
        Checks.paper(x, 0, 1, 5, "deed");
        int[] known = {0, 5, 6, 1999};
        int[] forged = {0, 0, 1, 1};
        int[] points = {0, 3, 0, 0};
        for (int i = 0; i < known.length; i++) {
            checks.due("the first as known on " + known[i], x.forged(0, known[i]), forged[i]);
            checks.due("the other as known on " + known[i], x.forged(1, known[i]), forged[i]);
            checks.due("POINTS as known on " + known[i], x.points(0, 0, known[i]), points[i]);
        }
    }

    /** "its issuer", who may be person 0, and isn't there with NONE. */
    private static void forgedByTheFirst() {
        TreatyClaims x = filed(0, 0, "weigh deed 3;weigh oath 5;");
        Checks.paper(x, 0, 0, 7, "deed");
        Checks.paper(x, 0, NONE, 7, "oath");
        x.dead(0, 7);
        checks.due("by person 0", x.forged(0, 0), 1);
        checks.due("by none", x.forged(1, 0), 0);
        checks.due("POINTS", x.points(0, 0, 0), 5);
    }

    /** "1 it was FILED behind bar". */
    private static void filedBehindBar() {
        for (int day : new int[] {0, 1, 1998, 1999}) {
            for (int bar : new int[] {0, 1, 1998, 1999}) {
                int want = day > bar ? 1 : 0;
                String rules = "need ship 0;bar " + bar + ";";
                checks.due("filed on " + day + ", " + rules, filed(0, day, rules).fails(0, 0, 1999), want);
            }
            checks.due("filed on " + day + " without bar", filed(0, day, "need ship 0;").fails(0, 0, 1999), 0);
        }
    }

    /** "2 its THING was not lost within days". */
    private static void lostWithinDays() {
        int[] days = {0, 1, 7, 1998, 1999};
        for (int lost : days) {
            for (int first : days) {
                for (int last : days) {
                    if (last >= first) {
                        int want = lost < first || lost > last ? 2 : 0;
                        String rules = "need ship 0;days " + first + " " + last + ";";
                        checks.due("lost on " + lost + ", " + rules, filed(lost, 1999, rules).fails(0, 0, 1999), want);
                    }
                }
            }
        }
    }

    /** "4 the claimant's NATION .. isn't the one it is as of: on the day of the loss, of the filing, on both". */
    private static void nationOnTheDays() {
        String[] chains = {"loss", "filing", "both", "always"};
        for (int from = 4; from <= 10; from++) {
            for (int chain = 0; chain < 4; chain++) {
                TreatyClaims x = filed(5, 9, "need ship 0;chain " + chains[chain] + ";");
                x.nation(0, 3, from);
                boolean onLoss = from <= 5;
                boolean onFiling = from <= 9;
                int want = (chain == 0 ? onLoss : onFiling) ? 4 : 0;
                checks.due("another from " + from + " on, chain " + chains[chain], x.fails(0, 0, 9), want);
                x.nation(0, 0, from + 1);
                boolean forADay = chain == 0 ? from == 5 : chain == 1 ? from == 9 : chain == 2 ? from == 5 || from == 9
                    : from >= 5 && from <= 9;
                checks.due("another on " + from + ", chain " + chains[chain], x.fails(0, 0, 9), forADay ? 4 : 0);
            }
        }
    }

    /** "on each from the lesser to the greater of these (always)": also where both are one day. */
    private static void nationAlways() {
        for (int other = 6; other <= 8; other++) {
            TreatyClaims x = filed(7, 7, "need ship 0;chain always;");
            x.nation(0, 2, other);
            x.nation(0, 0, other + 1);
            checks.due("another on " + other, x.fails(0, 0, 7), other == 7 ? 4 : 0);
        }
        TreatyClaims x = filed(0, 1999, "need ship 0;chain always;");
        checks.due("from the first to the last day", x.fails(0, 0, 1999), 0);
        x.nation(0, 1, 1999);
        checks.due("another on the last", x.fails(0, 0, 1999), 4);
        TreatyClaims y = Checks.withPersons(1);
        y.nation(0, 2, 5);
        Checks.passTo(y, 9);
        y.thing(5, 0, 10);
        Checks.rules(y, 0, "need ship 0;chain always;");
        Checks.write(y, "ship");
        y.claim(0, 2, 0, 0, 0, 1);
        Checks.write(y, "ship");
        y.claim(0, 0, 0, 0, 0, 1);
        checks.due("as of NATION 2", y.fails(0, 0, 9), 0);
        checks.due("as of NATION 0", y.fails(1, 0, 9), 4);
    }

    /** "(for a day, as KNOWN)": what is told a day later, of the first day and of one between. */
    private static void nationAlwaysAsKnown() {
        for (int from = 5; from <= 9; from++) {
            TreatyClaims x = filed(5, 9, "need ship 0;chain always;");
            for (int day = 5; day <= 9; day++) {
                x.nation(0, 0, day);
            }
            x.pass(1);
            x.nation(0, 3, from);
            checks.due("another from " + from + " on, as known ahead", x.fails(0, 0, 9), 0);
            checks.due("another from " + from + " on, as known then", x.fails(0, 0, 10), 4);
        }
    }

    /** "isn't the one it is as of": neither a lesser nor a greater one, by any chain. */
    private static void nationOfEachNumber() {
        String[] chains = {"loss", "filing", "both", "always"};
        for (int of = 0; of < 4; of++) {
            TreatyClaims x = Checks.withPersons(1);
            x.nation(0, of, 0);
            x.thing(0, 0, 10);
            for (int as = 0; as < 4; as++) {
                Checks.write(x, "ship");
                x.claim(0, as, 0, 0, 0, 1);
            }
            for (int v = 0; v < 4; v++) {
                Checks.rules(x, v, "need ship 0;chain " + chains[v] + ";");
                for (int as = 0; as < 4; as++) {
                    checks.due("of " + of + ", as of " + as + ", chain " + chains[v], x.fails(as, v, 0), as == of ? 0 : 4);
                }
            }
        }
    }

    /** "8 its POINTS are below need of its W": need, one less, one more; 10 where it isn't told. */
    private static void pointsBelowNeed() {
        checks.due("need 5", withPapers("weigh a 5;need ship 5;", "a").fails(0, 0, 0), 0);
        checks.due("need 6", withPapers("weigh a 5;need ship 6;", "a").fails(0, 0, 0), 8);
        checks.due("need 4", withPapers("weigh a 5;need ship 4;", "a").fails(0, 0, 0), 0);
        checks.due("need 0, no PAPER", withPapers("need ship 0;", "").fails(0, 0, 0), 0);
        checks.due("need 1, no PAPER", withPapers("need ship 1;", "").fails(0, 0, 0), 8);
        checks.due("untold, 9", withPapers("weigh a 9;", "a").fails(0, 0, 0), 8);
        checks.due("untold, 10", withPapers("weigh a 10;", "a").fails(0, 0, 0), 0);
        checks.due("need of another W", withPapers("weigh a 9;need boat 9;", "a").fails(0, 0, 0), 8);
        String many = "weigh a 99;weigh b 99;weigh c 99;weigh d 99;weigh e 99;weigh f 99;weigh g 99;weigh h 99;weigh i 99;"
            + "weigh j 99;weigh k 9;weigh l 1;need ship 999;";
        checks.due("999", withPapers(many, "abcdefghijk").fails(0, 0, 0), 0);
        checks.due("991", withPapers(many, "abcdefghijl").fails(0, 0, 0), 8);
        checks.due("1000", withPapers(many, "abcdefghijkl").fails(0, 0, 0), 0);
    }

    /** "POINTS: the sum of what the unlike KINDS of its PAPERS weigh": from 0 to all sixteen. */
    private static void pointsOfUnlikeKinds() {
        checks.due("one W twice", withPapers("weigh a 5;", "aa").points(0, 0, 0), 5);
        checks.due("no KIND", withPapers("weigh a 5;", "z").points(0, 0, 0), 0);
        checks.due("a KIND that isn't weighed", withPapers("must ship b;weigh a 5;", "b").points(0, 0, 0), 0);
        checks.due("the least", withPapers("weigh a 1;", "a").points(0, 0, 0), 1);
        StringBuilder text = new StringBuilder();
        for (char c = 'a'; c < 'q'; c++) {
            text.append("weigh ").append(c).append(" 99;");
        }
        TreatyClaims x = withPapers(text.toString(), "abcdefghijklmnopqrs");
        checks.due("sixteen KINDS", x.points(0, 0, 0), 16 * 99);
        checks.due("by a VERSION without KINDS", x.points(0, 1, 0), 0);
    }

    /** "that are KNOWN by then and not FORGED". */
    private static void pointsOfWhatIsKnown() {
        TreatyClaims x = filed(0, 0, "weigh a 5;need ship 5;");
        x.pass(7);
        Checks.paper(x, 0, NONE, 0, "a");
        checks.due("as known on 6", x.points(0, 0, 6), 0);
        checks.due("fails as known on 6", x.fails(0, 0, 6), 8);
        checks.due("as known on 7", x.points(0, 0, 7), 5);
        checks.due("fails as known on 7", x.fails(0, 0, 7), 0);
        checks.due("as known on 1999", x.points(0, 0, 1999), 5);
        checks.due("lacks as known on 6", x.lacks(0, 0, 6), 1);
        checks.due("lacks as known on 7", x.lacks(0, 0, 7), 0);
        checks.due("weakest as known on 6", x.weakest(0, 0, 6), NONE);
        checks.due("weakest as known on 7", x.weakest(0, 0, 7), 0);
    }

    /** "16 a must of its W isn't had, or of an either neither". */
    private static void mustAndEither() {
        String musts = "need ship 0;must ship a;must ship b;must boat c;";
        checks.due("no must", withPapers(musts, "").fails(0, 0, 0), 16);
        checks.due("one of two", withPapers(musts, "a").fails(0, 0, 0), 16);
        checks.due("the other of two", withPapers(musts, "b").fails(0, 0, 0), 16);
        checks.due("both", withPapers(musts, "ab").fails(0, 0, 0), 0);
        String eithers = "need ship 0;either ship a b;either ship b c;either boat d e;";
        checks.due("neither", withPapers(eithers, "").fails(0, 0, 0), 16);
        checks.due("of one alone", withPapers(eithers, "a").fails(0, 0, 0), 16);
        checks.due("of the other alone", withPapers(eithers, "c").fails(0, 0, 0), 16);
        checks.due("the one of both", withPapers(eithers, "b").fails(0, 0, 0), 0);
        checks.due("one of each", withPapers(eithers, "ac").fails(0, 0, 0), 0);
        checks.due("all", withPapers(eithers, "abc").fails(0, 0, 0), 0);
        checks.due("an either of one W twice", withPapers("need ship 0;either ship a a;", "a").fails(0, 0, 0), 0);
        StringBuilder ten = new StringBuilder("need ship 0;");
        for (char c = 'a'; c < 'k'; c++) {
            ten.append("must ship ").append(c).append(';');
        }
        checks.due("nine of ten", withPapers(ten.toString(), "abcdefghi").fails(0, 0, 0), 16);
        checks.due("ten of ten", withPapers(ten.toString(), "abcdefghij").fails(0, 0, 0), 0);
    }

    /** A text has no must and no either but its own, though one with more stood in its place ahead of it. */
    private static void mustAndEitherToldAnew() {
        TreatyClaims x = withPapers("need ship 0;must ship a;must ship b;either ship c d;", "a");
        checks.due("more is asked", x.fails(0, 0, 0), 16);
        for (int round = 0; round < 3; round++) {
            Checks.rules(x, 0, "need ship 0;must ship a;");
            checks.due("a alone, told " + round, x.fails(0, 0, 0), 0);
            checks.due("nothing lacks, told " + round, x.lacks(0, 0, 0), 0);
            Checks.rules(x, 0, "need ship 0;");
            checks.due("nothing is asked, told " + round, x.fails(0, 0, 0), 0);
        }
    }

    /** "32 it was WITHDRAWN". */
    private static void withdrawnFails() {
        TreatyClaims x = filed(0, 0, "need ship 0;");
        Checks.claim(x, 0, 0, 0, 100, "ship");
        x.withdraw(0);
        checks.due("it", x.fails(0, 0, 0), 32);
        checks.due("another one", x.fails(1, 0, 0), 0);
        checks.due("by another VERSION", x.fails(0, 1, 0), 32 + 8);
    }

    /** All that can fail of one. */
    private static void allBits() {
        TreatyClaims x = filed(5, 9, "bar 8;days 6 7;chain loss;must ship a;");
        x.nation(0, 1, 5);
        checks.due("all but that it was WITHDRAWN", x.fails(0, 0, 9), 31);
        x.withdraw(0);
        checks.due("all", x.fails(0, 0, 9), 63);
    }

    /** Promise 29: "0: none lack". */
    private static void lacksNothing() {
        checks.due("need 0", withPapers("need ship 0;weigh a 5;", "").lacks(0, 0, 0), 0);
        checks.due("need that is met", withPapers("need ship 5;weigh a 5;", "a").lacks(0, 0, 0), 0);
        checks.due("a must that is had", withPapers("need ship 0;must ship a;", "a").lacks(0, 0, 0), 0);
        TreatyClaims x = filed(5, 9, "need ship 0;bar 0;days 0 0;");
        x.withdraw(0);
        checks.due("of one that fails in all else", x.lacks(0, 0, 9), 0);
    }

    /** "the fewest KINDS .. that it would have to have besides". */
    private static void lacksFewest() {
        String rules = "need ship 10;weigh a 4;weigh b 6;weigh c 10;weigh d 9;";
        checks.due("one that does alone", withPapers(rules, "").lacks(0, 0, 0), 4);
        checks.due("besides a: b", withPapers(rules, "a").lacks(0, 0, 0), 2);
        checks.due("besides b: a", withPapers(rules, "b").lacks(0, 0, 0), 1);
        checks.due("besides d: a", withPapers(rules, "d").lacks(0, 0, 0), 1);
        String both = "need ship 4;weigh a 4;weigh b 1;weigh c 3;must ship b;";
        checks.due("what must be, and the points", withPapers(both, "").lacks(0, 0, 0), 3);
        checks.due("besides c: b alone", withPapers(both, "c").lacks(0, 0, 0), 2);
        checks.due("besides a: b", withPapers(both, "a").lacks(0, 0, 0), 2);
        String one = "must boat a;weigh b 10;weigh c 10;either ship a c;need ship 10;";
        checks.due("c for POINTS and either, not a and b, which are a lesser set", withPapers(one, "").lacks(0, 0, 0), 4);
        String two = "must ship a;either ship b c;either ship d e;weigh f 9;weigh b 1;weigh d 1;need ship 2;";
        checks.due("one of each, not the heaviest", withPapers(two, "").lacks(0, 0, 0), 1 + 2 + 8);
        String three = "must boat a;weigh b 5;weigh c 5;weigh d 5;either ship a d;need ship 10;";
        checks.due("b and d, not c and d", withPapers(three, "").lacks(0, 0, 0), 2 + 8);
    }

    /** "of as many the least set (bits by KIND)". */
    private static void lacksLeast() {
        String rules = "need ship 10;weigh a 5;weigh b 5;weigh c 5;weigh d 6;weigh e 4;";
        checks.due("the first two", withPapers(rules, "").lacks(0, 0, 0), 3);
        checks.due("besides a: b", withPapers(rules, "a").lacks(0, 0, 0), 2);
        checks.due("besides c: a", withPapers(rules, "c").lacks(0, 0, 0), 1);
        checks.due("besides e: d", withPapers(rules, "e").lacks(0, 0, 0), 8);
        String high = "need ship 10;weigh a 1;weigh b 9;weigh c 5;weigh d 5;";
        checks.due("a and b ahead of c and d", withPapers(high, "").lacks(0, 0, 0), 3);
        String other = "need ship 10;weigh a 4;weigh b 5;weigh c 5;weigh d 6;";
        checks.due("b and c ahead of a and d", withPapers(other, "").lacks(0, 0, 0), 6);
        checks.due("of an either the first", withPapers("need ship 0;either ship a b;", "").lacks(0, 0, 0), 1);
        checks.due("of an either the first KIND, not the first told",
            withPapers("weigh b 1;need ship 0;either ship a b;", "").lacks(0, 0, 0), 1);
    }

    /** Promise 29: "NONE: no set would do"; and where all KINDS there can be lack. */
    private static void lacksAllOrNone() {
        checks.due("no KIND", withPapers("need ship 1;", "").lacks(0, 0, 0), NONE);
        checks.due("all too light", withPapers("need ship 9;weigh a 4;weigh b 4;", "").lacks(0, 0, 0), NONE);
        checks.due("all just enough", withPapers("need ship 8;weigh a 4;weigh b 4;", "").lacks(0, 0, 0), 3);
        checks.due("too light with what is had", withPapers("need ship 9;weigh a 4;weigh b 4;", "a").lacks(0, 0, 0), NONE);
        StringBuilder text = new StringBuilder();
        for (char c = 'a'; c < 'q'; c++) {
            text.append("weigh ").append(c).append(" 10;");
        }
        checks.due("all sixteen", withPapers(text + "need ship 160;", "").lacks(0, 0, 0), 65535);
        checks.due("more than all", withPapers(text + "need ship 161;", "").lacks(0, 0, 0), NONE);
        checks.due("fifteen", withPapers(text + "need ship 150;", "").lacks(0, 0, 0), 32767);
        checks.due("the last alone", withPapers(text + "need ship 0;must ship p;", "").lacks(0, 0, 0), 32768);
        checks.due("all but the last, which is had", withPapers(text + "need ship 160;", "p").lacks(0, 0, 0), 32767);
    }

    /** LACKS of many texts of six KINDS, beside all sets that there are, tried one by one. */
    private static void lacksBesideAllSets() {
        Random random = new Random(9);
        for (int round = 0; round < 600; round++) {
            int[] weights = new int[6];
            StringBuilder text = new StringBuilder();
            for (int k = 0; k < 6; k++) {
                weights[k] = random.nextInt(3) == 0 ? 0 : 1 + random.nextInt(5);
                text.append(weights[k] == 0 ? "must boat " : "weigh ").append((char) ('a' + k));
                text.append(weights[k] == 0 ? ";" : " " + weights[k] + ";");
            }
            int need = random.nextInt(14);
            text.append("need ship ").append(need).append(';');
            int[] demands = new int[random.nextInt(5)];
            for (int i = 0; i < demands.length; i++) {
                int one = random.nextInt(6);
                int other = random.nextInt(6);
                demands[i] = 1 << one | 1 << other;
                text.append("either ship ").append((char) ('a' + one)).append(' ').append((char) ('a' + other)).append(';');
            }
            int had = random.nextInt(2) == 0 ? 0 : 1 << random.nextInt(6);
            String papers = had == 0 ? "" : Character.toString('a' + Integer.numberOfTrailingZeros(had));
            int want = leastOfAllSets(weights, need, demands, had);
            checks.due("lacks by " + text + " with " + papers, withPapers(text.toString(), papers).lacks(0, 0, 0), want);
        }
    }

    private static int leastOfAllSets(int[] weights, int need, int[] demands, int had) {
        int least = NONE;
        for (int set = 0; set < 64; set++) {
            int points = 0;
            boolean does = (set & had) == 0;
            for (int k = 0; k < 6; k++) {
                points += ((set | had) >> k & 1) * weights[k];
            }
            for (int demand : demands) {
                does = does && (demand & (set | had)) != 0;
            }
            boolean fewer = least == NONE || Integer.bitCount(set) < Integer.bitCount(least);
            least = does && points >= need && fewer ? set : least;
        }
        return least;
    }

    /** "WEAKEST: the least KIND without whose PAPERS a PROVEN one would fail". */
    private static void weakestIsTheLeast() {
        checks.due("by POINTS", withPapers("weigh a 1;weigh b 5;weigh c 5;need ship 10;", "abc").weakest(0, 0, 0), 1);
        checks.due("the least", withPapers("weigh a 5;weigh b 5;need ship 10;", "ba").weakest(0, 0, 0), 0);
        checks.due("a must that weighs nothing", withPapers("weigh a 1;need ship 1;weigh b 1;must ship c;", "abc")
            .weakest(0, 0, 0), 2);
        checks.due("an either of which one is had", withPapers("need ship 0;either ship a b;", "b").weakest(0, 0, 0), 1);
        checks.due("two PAPERS of one KIND", withPapers("weigh a 5;need ship 5;", "aa").weakest(0, 0, 0), 0);
        StringBuilder text = new StringBuilder("need ship 1;");
        for (char c = 'a'; c < 'p'; c++) {
            text.append("weigh ").append(c).append(" 1;");
        }
        TreatyClaims x = withPapers(text + "must ship p;", "abcdefghijklmnop");
        checks.due("the sixteenth KIND", x.weakest(0, 0, 0), 15);
    }

    /** Promise 30: "NONE: no one KIND, or it isn't PROVEN". */
    private static void weakestIsNone() {
        checks.due("no KIND is needed", withPapers("need ship 0;weigh a 5;", "a").weakest(0, 0, 0), NONE);
        checks.due("one for the other", withPapers("need ship 5;weigh a 5;weigh b 5;", "ab").weakest(0, 0, 0), NONE);
        checks.due("it isn't PROVEN: POINTS", withPapers("need ship 6;weigh a 5;", "a").weakest(0, 0, 0), NONE);
        checks.due("it isn't PROVEN: bar", filed(5, 9, "need ship 0;bar 8;must ship a;").weakest(0, 0, 9), NONE);
        TreatyClaims x = withPapers("need ship 5;weigh a 5;", "a");
        checks.due("it is PROVEN", x.weakest(0, 0, 0), 0);
        x.nation(0, 1, 0);
        checks.due("it isn't PROVEN: NATION", x.weakest(0, 0, 0), NONE);
        x.nation(0, 0, 0);
        x.withdraw(0);
        checks.due("it isn't PROVEN: WITHDRAWN", x.weakest(0, 0, 0), NONE);
    }

    /** WEAKEST "as KNOWN on a day": what comes a day later, in the stead of another, spares none the day ahead. */
    private static void weakestAsKnown() {
        TreatyClaims x = withPapers("need ship 5;weigh a 5;weigh b 5;", "b");
        x.pass(1);
        Checks.paper(x, 0, NONE, 0, "a");
        checks.due("as known on 0", x.weakest(0, 0, 0), 1);
        checks.due("as known on 1", x.weakest(0, 0, 1), NONE);
    }

    /** Promise 31: "PROVEN by VERSION v and not by w, as KNOWN now". */
    private static void besideCounts() {
        TreatyClaims x = withPapers("need ship 5;weigh a 5;", "");
        Checks.rules(x, 3, "need ship 0;");
        checks.due("3 and not 0", x.beside(3, 0), 1);
        checks.due("0 and not 3", x.beside(0, 3), 0);
        checks.due("0 and not 0", x.beside(0, 0), 0);
        checks.due("3 and not 3", x.beside(3, 3), 0);
        checks.due("1 and not 2", x.beside(1, 2), 0);
        x.pass(1);
        Checks.paper(x, 0, 1, 9, "a");
        checks.due("with a PAPER that is KNOWN now", x.beside(3, 0), 0);
        checks.due("PROVEN by it, and not by another VERSION", x.beside(0, 2), 1);
        x.dead(1, 9);
        checks.due("which is FORGED, as KNOWN now", x.beside(3, 0), 1);
        for (int v : new int[] {Integer.MIN_VALUE, -1, 4, Integer.MAX_VALUE}) {
            checks.due("beside(" + v + ", 0)", x.beside(v, 0), RANGE);
            checks.due("beside(0, " + v + ")", x.beside(0, v), RANGE);
        }
    }

    /** Promise 33: "-9 when there is none such". */
    private static void aboutNumbers() {
        TreatyClaims x = filed(0, 0, "");
        for (int what : new int[] {Integer.MIN_VALUE, -9, -1, 14, Integer.MAX_VALUE}) {
            checks.due("about(0, " + what + ")", x.about(0, what), NO_SUCH);
        }
        for (int c : new int[] {Integer.MIN_VALUE, -1, 1, 60, Integer.MAX_VALUE}) {
            for (int what = 0; what < 14; what++) {
                checks.due("about(" + c + ", " + what + ")", x.about(c, what), NO_SUCH);
            }
        }
        checks.due("the day of no decision", x.about(0, 11), NONE);
    }
}
