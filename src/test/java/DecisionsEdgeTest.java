/** The edges of Terms IV: PARTED, VOTES, LOTS, AWARDS, LIKE CASES, TESTS, SPREAD, AGAIN. A method a sentence. */
public final class DecisionsEdgeTest {
    private static final Checks checks = new Checks();
    private static final int NONE = TreatyClaims.NONE;
    private static final int RANGE = TreatyClaims.RANGE;
    private static final int STATE = TreatyClaims.STATE;
    private static final int OPEN = 0;
    private static final int SPLIT = 1;
    private static final int DECIDED = 2;
    private static final int WITHDRAWN = 3;

    public static void main(String[] args) {
        amountsNoMoreThanIsLeft();
        inTheMeasureOfAmounts();
        overToTheLowestNumbers();
        nothingLeftForTheNextRole();
        dueOfProvenOnes();
        votesBounds();
        votesAlike();
        splitLeast();
        splitMean();
        splitUmpire();
        voteOnOpenOnes();
        lotsOfWhom();
        lotsToday();
        lotToday();
        lotBounds();
        lotOfSplitOnes();
        interestIsCut();
        interestDays();
        capLets();
        capBesideAllAwards();
        keptAsItIsDecided();
        decidedByTheVersionInForce();
        likeByTheVersionInForce();
        likeAtMostTestMarks();
        likeOfOneW();
        testsOfAtMost();
        testsFewestThenLeast();
        testNumbers();
        spreadIsCut();
        spreadAtMostItsDue();
        spreadAllNothing();
        spreadByNumber();
        againAtMostLateDays();
        againIfUnlike();
        againIsOpenThen();
        withdrawOpenOnes();
        umpireWasOtherwise();
        checks.close("DecisionsEdgeTest");
    }

    /** One THING, and a CLAIM on it for each AMOUNT, in a ROLE. */
    private static TreatyClaims claimed(int worth, String rules, int role, int... amounts) {
        TreatyClaims x = Checks.withPersons(6);
        x.thing(0, 0, worth);
        checks.holds("'" + rules + "' stands", Checks.rules(x, 0, "need ship 0;" + rules) != NONE);
        for (int amount : amounts) {
            Checks.claim(x, 0, 0, role, amount, "ship");
        }
        return x;
    }

    private static void dues(String when, TreatyClaims x, int... want) {
        for (int c = 0; c < want.length; c++) {
            checks.due(when + ": due(" + c + ")", x.due(c), want[c]);
        }
    }

    /** "those of one have their AMOUNTS, if they are no more than is left": just as much, one less, one more. */
    private static void amountsNoMoreThanIsLeft() {
        dues("as much as there is", claimed(100, "", 0, 60, 40), 60, 40);
        dues("one less", claimed(101, "", 0, 60, 40), 60, 40);
        dues("one more", claimed(99, "", 0, 60, 40), 60, 39);
        dues("one alone, as much", claimed(100, "", 3, 100), 100);
        dues("one alone, more", claimed(100, "", 3, 101), 100);
        dues("one alone, much more", claimed(1, "", 3, 999999), 1);
    }

    /** "else what is left in the measure of their AMOUNTS (the whole part of each ..)". */
    private static void inTheMeasureOfAmounts() {
        dues("without a rest", claimed(50, "", 0, 60, 40), 30, 20);
        dues("great ones", claimed(999999, "", 0, 999999, 999999, 999999), 333333, 333333, 333333);
        dues("a small one beside a great one", claimed(999998, "", 0, 1, 999998), 1, 999997);
        dues("a penny among three", claimed(1, "", 0, 1, 999999, 5), 1, 0, 0);
    }

    /** "of what is left over one each to the lowest numbers". */
    private static void overToTheLowestNumbers() {
        dues("two over of three", claimed(5, "", 0, 3, 3, 3), 2, 2, 1);
        dues("one over of three", claimed(4, "", 0, 3, 3, 3), 2, 1, 1);
        dues("not to the greatest rest", claimed(10, "", 0, 1, 10), 1, 9);
        TreatyClaims x = claimed(5, "", 0, 3, 3, 3);
        x.withdraw(0);
        dues("the lowest that is PROVEN", x, 0, 3, 2);
        TreatyClaims y = claimed(5, "", 3, 3);
        Checks.claim(y, 0, 0, 0, 3, "ship");
        Checks.claim(y, 0, 0, 0, 3, "ship");
        dues("the lowest of that ROLE, not of a later one", y, 0, 3, 2);
        TreatyClaims z = claimed(8, "order insurer owner;", 3, 3);
        Checks.claim(z, 0, 0, 0, 3, "ship");
        Checks.claim(z, 0, 0, 0, 3, "ship");
        dues("the lowest of that ROLE, not of an earlier one", z, 3, 3, 2);
    }

    /** "ROLE by ROLE by order": what is left of one is all that the next ones have. */
    private static void nothingLeftForTheNextRole() {
        TreatyClaims x = claimed(100, "order insurer owner;", 0, 50, 50);
        Checks.claim(x, 1, 0, 1, 10, "ship");
        dues("all is gone with the owners", x, 50, 50, 0);
        Checks.claim(x, 1, 0, 3, 99, "ship");
        dues("one is left of the insurers", x, 1, 0, 0, 99);
        Checks.claim(x, 1, 0, 3, 1, "ship");
        dues("none is left of the insurers", x, 0, 0, 0, 99, 1);
        Checks.claim(x, 1, 0, 3, 100, "ship");
        dues("more than all by the insurers", x, 0, 0, 0, 50, 0, 50);
    }

    /** "0 if it isn't PROVEN"; by the VERSION IN FORCE, as KNOWN now. */
    private static void dueOfProvenOnes() {
        TreatyClaims x = claimed(100, "weigh deed 1;need boat 1;", 0, 60);
        Checks.claim(x, 0, 0, 0, 60, "boat");
        dues("one isn't PROVEN", x, 60, 0);
        x.pass(1);
        Checks.paper(x, 1, 1, 9, "deed");
        dues("it is now", x, 50, 50);
        x.dead(1, 9);
        dues("its PAPER is FORGED", x, 60, 0);
        x.force(1);
        dues("by another VERSION", x, 0, 0);
        checks.due("due(2)", x.due(2), RANGE);
        checks.due("due(-1)", x.due(-1), RANGE);
    }

    /** Promise 35: "VOTES (0 .. its DUE)": the DUE, which is less than the AMOUNT here. */
    private static void votesBounds() {
        for (int vote : new int[] {Integer.MIN_VALUE, -1, 71, 100, Integer.MAX_VALUE}) {
            TreatyClaims x = claimed(70, "", 0, 100);
            checks.due("vote " + vote, x.vote(0, vote, 70), RANGE);
            checks.due("the other " + vote, x.vote(0, 70, vote), RANGE);
            checks.due("it is OPEN still", x.about(0, 7), OPEN);
            checks.due("vote 0 and the DUE", x.vote(0, 0, 70), DECIDED);
        }
        checks.due("vote of the DUE", claimed(70, "", 0, 100).vote(0, 70, 70), DECIDED);
        checks.due("vote of 0", claimed(70, "", 0, 100).vote(0, 0, 0), DECIDED);
    }

    /** "alike, .. it is DECIDED so", whatever split says. */
    private static void votesAlike() {
        for (String split : new String[] {"", "split least;", "split mean;", "split umpire;"}) {
            for (int sum : new int[] {0, 1, 69, 70}) {
                TreatyClaims x = claimed(70, split, 0, 100);
                checks.due(split + " alike " + sum, x.vote(0, sum, sum), DECIDED);
                checks.due("the sum", x.about(0, 8), sum);
                checks.due("the AWARD", x.about(0, 9), sum);
                checks.due("the VOTES of one that isn't SPLIT", x.about(0, 12) + x.about(0, 13), 0);
            }
        }
    }

    /** "least: the lesser". */
    private static void splitLeast() {
        int[][] votes = {{0, 70, 0}, {70, 0, 0}, {69, 70, 69}, {70, 69, 69}, {0, 1, 0}, {1, 0, 0}};
        for (int[] v : votes) {
            TreatyClaims x = claimed(70, "split least;", 0, 100);
            checks.due("least of " + v[0] + " and " + v[1], x.vote(0, v[0], v[1]), DECIDED);
            checks.due("the sum", x.about(0, 8), v[2]);
        }
    }

    /** "mean: the half of both, cut". */
    private static void splitMean() {
        int[][] votes = {{0, 70, 35}, {70, 0, 35}, {69, 70, 69}, {70, 69, 69}, {0, 1, 0}, {1, 0, 0}, {1, 2, 1}, {1, 3, 2}};
        for (int[] v : votes) {
            TreatyClaims x = claimed(70, "split mean;", 0, 100);
            checks.due("mean of " + v[0] + " and " + v[1], x.vote(0, v[0], v[1]), DECIDED);
            checks.due("the sum", x.about(0, 8), v[2]);
        }
        TreatyClaims x = claimed(999999, "", 0, 999999);
        x.vote(0, 999999, 999998);
        checks.due("untold, of the greatest", x.about(0, 8), 999998);
    }

    /** "umpire, unlike: it is SPLIT". */
    private static void splitUmpire() {
        for (int[] v : new int[][] {{0, 70}, {70, 0}, {69, 70}, {1, 0}}) {
            TreatyClaims x = claimed(70, "split umpire;", 0, 100);
            checks.due("umpire of " + v[0] + " and " + v[1], x.vote(0, v[0], v[1]), SPLIT);
            checks.due("STATE", x.about(0, 7), SPLIT);
            checks.due("the first VOTE", x.about(0, 12), v[0]);
            checks.due("the other VOTE", x.about(0, 13), v[1]);
            checks.due("no sum", x.about(0, 8), 0);
            checks.due("no AWARD", x.about(0, 9), 0);
            checks.due("no day", x.about(0, 11), NONE);
        }
    }

    /** Promise 35: "STATE: it isn't OPEN. (STATE ahead of RANGE of VOTES.)" */
    private static void voteOnOpenOnes() {
        TreatyClaims x = claimed(90, "split umpire;", 0, 10, 10, 10);
        x.vote(0, 1, 2);
        x.vote(1, 1, 1);
        x.withdraw(2);
        for (int c = 0; c < 3; c++) {
            for (int vote : new int[] {0, 11, -1, Integer.MAX_VALUE}) {
                checks.due("vote on " + c + " of " + vote, x.vote(c, vote, vote), STATE);
            }
        }
        checks.due("STATES", x.about(0, 7) * 100 + x.about(1, 7) * 10 + x.about(2, 7), 123);
        checks.due("on none", x.vote(3, 0, 0), RANGE);
        checks.due("on -1", x.vote(-1, 0, 0), RANGE);
    }

    /** "those, by number, who are on it, not DEAD .., and of no NATION of the two SIDES". */
    private static void lotsOfWhom() {
        TreatyClaims x = claimed(100, "split umpire;", 0);
        for (int c = 0; c < 4; c++) {
            Checks.claim(x, 2, 0, 0, 10, "ship");
        }
        for (int p = 0; p < 6; p++) {
            x.nation(p, p == 2 ? 0 : p == 3 ? 1 : 2 + p % 2, 0);
        }
        for (int p = 5; p >= 1; p--) {
            x.umpire(p, true);
        }
        x.dead(4, 0);
        checks.due("lots()", x.lots(), 2);
        x.vote(0, 0, 1);
        x.vote(1, 0, 1);
        checks.due("number 2", x.lot(0, 2, 0), RANGE);
        checks.due("number 0", x.lot(0, 0, 0), 1);
        checks.due("number 1", x.lot(1, 1, 0), 5);
        x.umpire(0, true);
        x.umpire(5, false);
        checks.due("lots() then", x.lots(), 2);
        x.vote(2, 0, 1);
        x.vote(3, 0, 1);
        checks.due("number 0 then", x.lot(2, 0, 0), 0);
        checks.due("number 1 then", x.lot(3, 1, 0), 1);
    }

    /** "(today, as KNOWN today)": a death and a NATION that begin today, and such that begin tomorrow. */
    private static void lotsToday() {
        TreatyClaims x = Checks.withPersons(3);
        x.pass(5);
        for (int p = 0; p < 3; p++) {
            x.umpire(p, true);
        }
        checks.due("all of NATION 0", x.lots(), 0);
        x.nation(0, 2, 5);
        x.nation(1, 3, 6);
        x.nation(2, 2, 0);
        x.dead(0, 6);
        checks.due("the first and the last today", x.lots(), 2);
        x.dead(2, 5);
        checks.due("the last is DEAD from today on", x.lots(), 1);
        x.pass(1);
        checks.due("the second alone tomorrow", x.lots(), 1);
        x.sides(2, 3);
        checks.due("of other SIDES", x.lots(), 0);
    }

    /** Who is drawn "(today, as KNOWN today)": a death and a NATION that begin today, and such that begin tomorrow. */
    private static void lotToday() {
        for (int from = 4; from <= 6; from++) {
            for (int told = 0; told < 2; told++) {
                TreatyClaims x = splitOne(1, 2);
                x.nation(2, 3, 0);
                x.umpire(2, true);
                x.pass(5);
                int telling = told == 0 ? x.dead(1, from) : x.nation(1, 0, from);
                checks.holds("it is told", telling > 0);
                checks.due("no more for a LOT from " + from + " on", x.lots(), from <= 5 ? 1 : 2);
                checks.due("who is drawn then", x.lot(0, 0, 1), from <= 5 ? 2 : 1);
            }
        }
    }

    /** Promise 38: "RANGE: .. number, sum (from the lesser VOTE to the greater)". */
    private static void lotBounds() {
        for (int sum : new int[] {Integer.MIN_VALUE, -1, 0, 19, 20, 21, 39, 40, 41, 50, Integer.MAX_VALUE}) {
            for (int turned = 0; turned < 2; turned++) {
                TreatyClaims x = splitOne(turned == 0 ? 20 : 40, turned == 0 ? 40 : 20);
                boolean right = sum >= 20 && sum <= 40;
                checks.due("lot of sum " + sum, x.lot(0, 0, sum), right ? 1 : RANGE);
                checks.due("STATE", x.about(0, 7), right ? DECIDED : SPLIT);
                checks.due("the sum", x.about(0, 8), right ? sum : 0);
                checks.due("VOTES", x.about(0, 12) + x.about(0, 13), right ? 0 : 60);
            }
        }
        for (int number : new int[] {Integer.MIN_VALUE, -1, 1, 2, Integer.MAX_VALUE}) {
            TreatyClaims x = splitOne(20, 40);
            checks.due("lot of number " + number, x.lot(0, number, 30), RANGE);
            checks.due("STATE", x.about(0, 7), SPLIT);
            checks.due("number 0 then", x.lot(0, 0, 30), 1);
        }
    }

    private static TreatyClaims splitOne(int a, int b) {
        TreatyClaims x = claimed(100, "split umpire;", 0, 50);
        x.nation(1, 2, 0);
        x.umpire(1, true);
        x.vote(0, a, b);
        return x;
    }

    /** Promise 38: "STATE: it isn't SPLIT. (STATE ahead of RANGE of number, sum.)" */
    private static void lotOfSplitOnes() {
        TreatyClaims x = splitOne(1, 2);
        Checks.claim(x, 0, 0, 0, 5, "ship");
        Checks.claim(x, 0, 0, 0, 5, "ship");
        x.withdraw(2);
        x.lot(0, 0, 1);
        for (int c = 0; c < 3; c++) {
            for (int n : new int[] {0, 1, -1, Integer.MAX_VALUE}) {
                checks.due("lot of " + c, x.lot(c, n, n), STATE);
            }
        }
        checks.due("lot of none", x.lot(3, 0, 1), RANGE);
        checks.due("lot of -1", x.lot(-1, 0, 1), RANGE);
    }

    private static int award(String rules, int sum, int lost, int filed, int decided) {
        TreatyClaims x = Checks.withPersons(1);
        Checks.passTo(x, filed);
        x.thing(lost, 0, 999999);
        Checks.claim(x, 0, 0, 0, 999999, "ship");
        Checks.rules(x, 0, "need ship 0;" + rules);
        Checks.passTo(x, decided);
        x.vote(0, sum, sum);
        return x.about(0, 9);
    }

    /** "INTEREST (sum times rate times days, over 36000, cut ..)". */
    private static void interestIsCut() {
        checks.due("35999", award("rate 1 loss;", 35999, 0, 0, 1), 35999);
        checks.due("36000", award("rate 1 loss;", 36000, 0, 0, 1), 36001);
        checks.due("71999", award("rate 1 loss;", 71999, 0, 0, 1), 72000);
        checks.due("1 for 363 days at 99", award("rate 99 loss;", 1, 0, 0, 363), 1);
        checks.due("1 for 364 days at 99", award("rate 99 loss;", 1, 0, 0, 364), 2);
        checks.due("at 0", award("rate 0 loss;", 999999, 0, 0, 1999), 999999);
        checks.due("0", award("rate 99 loss;", 0, 0, 0, 1999), 0);
        checks.due("the greatest", award("rate 99 loss;", 999999, 0, 0, 1999), 999999 + 5497244);
    }

    /** "days from the loss, or the filing, to the CLOCK's day". */
    private static void interestDays() {
        checks.due("from the loss", award("rate 36 loss;", 1000, 4, 10, 20), 1016);
        checks.due("from the filing", award("rate 36 filing;", 1000, 4, 10, 20), 1010);
        checks.due("from the loss, on the day of the filing", award("rate 36 loss;", 1000, 4, 10, 10), 1006);
        checks.due("from the filing, on its day", award("rate 36 filing;", 1000, 4, 10, 10), 1000);
        checks.due("from the loss, on its day", award("rate 36 loss;", 1000, 10, 10, 10), 1000);
        checks.due("from the first day to the last", award("rate 18 filing;", 2, 0, 0, 1999), 3);
        checks.due("untold", award("", 1000, 0, 0, 1999), 1000);
    }

    /** "no more than cap (times 1000) lets": just as much, one less, one more. */
    private static void capLets() {
        checks.due("999", award("cap 1;", 999, 0, 0, 0), 999);
        checks.due("1000", award("cap 1;", 1000, 0, 0, 0), 1000);
        checks.due("1001", award("cap 1;", 1001, 0, 0, 0), 1000);
        checks.due("with INTEREST, as much", award("cap 1;rate 36 loss;", 909, 0, 0, 100), 999);
        checks.due("with INTEREST, cut by the cap", award("cap 1;rate 36 loss;", 910, 0, 0, 100), 1000);
        checks.due("the greatest cap", award("cap 9999;rate 99 loss;", 999999, 0, 0, 1999), 6497243);
        checks.due("no cap", award("", 999999, 0, 0, 0), 999999);
    }

    /** "beside all AWARDS so far", those that were DECIDED under another VERSION too. */
    private static void capBesideAllAwards() {
        TreatyClaims x = claimed(5000, "cap 1;", 0, 999, 999, 999, 999);
        int[] awards = {999, 1, 0};
        for (int c = 0; c < 3; c++) {
            checks.due("vote on " + c, x.vote(c, 999, 999), DECIDED);
            checks.due("AWARD of " + c, x.about(c, 9), awards[c]);
            checks.due("its sum", x.about(c, 8), 999);
        }
        checks.due("all AWARDS", x.count(8), 1000);
        Checks.rules(x, 1, "need ship 0;");
        x.force(1);
        Checks.claim(x, 0, 0, 0, 999, "ship");
        x.vote(4, 999, 999);
        checks.due("without a cap", x.about(4, 9), 999);
        x.force(0);
        checks.due("vote under a cap that is passed", x.vote(3, 999, 999), DECIDED);
        checks.due("it lets nothing", x.about(3, 9), 0);
        checks.due("all AWARDS then", x.count(8), 1999);
    }

    /** "Kept with it: what fails, and the DUE, as it is DECIDED": not as it was when it was SPLIT. */
    private static void keptAsItIsDecided() {
        TreatyClaims x = splitOne(10, 50);
        Checks.rules(x, 0, "need ship 0;split umpire;late 9;");
        Checks.claim(x, 0, 0, 0, 150, "ship");
        checks.due("the DUE is less now", x.due(0), 25);
        checks.due("a sum above it, between the VOTES", x.lot(0, 0, 50), 1);
        checks.due("nothing is unlike since", x.again(0), 0);
        x.withdraw(1);
        checks.due("as it was when it was SPLIT", x.due(0), 50);
        checks.due("but unlike to what was kept", x.again(0), 1);
    }

    /** Votes, a LOT and SPREAD are by the VERSION IN FORCE as it comes to them, not as it was FILED or voted on. */
    private static void decidedByTheVersionInForce() {
        for (int v = 0; v < 4; v++) {
            TreatyClaims x = splitOne(40, 50);
            Checks.claim(x, 0, 0, 0, 25, "ship");
            Checks.claim(x, 0, 0, 0, 25, "ship");
            for (int w = 0; w < 4; w++) {
                Checks.rules(x, w, "need ship 0;late " + 100 * w + ";rate " + 18 * w + " loss;");
            }
            x.pass(200);
            x.force(v);
            x.lot(0, 0, 50);
            x.vote(1, 20, 20);
            x.spread(0);
            checks.due("AWARD by LOT, VERSION " + v, x.about(0, 9), 50 + 5 * v);
            checks.due("AWARD by VOTES, VERSION " + v, x.about(1, 9), 20 + 2 * v);
            checks.due("AWARD by SPREAD, VERSION " + v, x.about(2, 9), 25 + 25 * v / 10);
            x.pass(150);
            checks.due("at most late days ago, VERSION " + v, x.again(0), v < 2 ? STATE : 0);
        }
    }

    /** LIKE CASES, TESTS and SPREAD: "(by the VERSION IN FORCE)". */
    private static void likeByTheVersionInForce() {
        for (int v = 0; v < 4; v++) {
            TreatyClaims x = marked(0, 0, 1, 3, 7, 15);
            for (int w = 1; w < 4; w++) {
                Checks.rules(x, w, "need ship 0;test " + w + ";");
            }
            x.force(v);
            for (int c = 1; c < 5; c++) {
                checks.due("like(0, " + c + ") by VERSION " + v, x.like(0, c), c <= v ? 1 : 0);
            }
            checks.due("tests(1) by VERSION " + v, x.tests(1), Math.min(2 * v + 1, 5));
            x.vote(0, 1, 1);
            checks.due("spread by VERSION " + v, x.spread(0), v);
        }
    }

    private static TreatyClaims marked(int test, int... marks) {
        TreatyClaims x = Checks.withPersons(1);
        x.thing(0, 0, 100);
        Checks.rules(x, 0, "need ship 0;need boat 0;test " + test + ";");
        for (int c = 0; c < marks.length; c++) {
            Checks.claim(x, 0, 0, 0, 1, "ship");
            x.mark(c, marks[c]);
        }
        return x;
    }

    /** "with at most test MARKS unlike": test, one less, one more, from 0 to 10. */
    private static void likeAtMostTestMarks() {
        for (int test = 0; test <= 10; test++) {
            TreatyClaims x = marked(test, 0, 0);
            for (int unlike = 0; unlike <= 10; unlike++) {
                x.mark(1, (1 << unlike) - 1);
                checks.due("test " + test + ", unlike " + unlike, x.like(0, 1), unlike <= test ? 1 : 0);
                checks.due("the other way", x.like(1, 0), unlike <= test ? 1 : 0);
                checks.due("tests(1)", x.tests(1), unlike <= test ? 2 : 1);
            }
        }
    }

    /** "two CLAIMS of one W"; promise 39: "(unlike)", and whatever their STATES. */
    private static void likeOfOneW() {
        TreatyClaims x = marked(10, 0, 0);
        Checks.claim(x, 0, 0, 0, 1, "boat");
        checks.due("of one W", x.like(0, 1), 1);
        checks.due("of another W", x.like(0, 2), 0);
        checks.due("with itself", x.like(2, 2), RANGE);
        for (int c : new int[] {Integer.MIN_VALUE, -1, 3, Integer.MAX_VALUE}) {
            checks.due("like(" + c + ", 0)", x.like(c, 0), RANGE);
            checks.due("like(0, " + c + ")", x.like(0, c), RANGE);
        }
        x.withdraw(0);
        x.vote(1, 0, 0);
        checks.due("a WITHDRAWN and a DECIDED one", x.like(0, 1), 1);
    }

    private static void tests(String when, TreatyClaims x, int n, int cases, int... row) {
        checks.due(when + ": tests(" + n + ")", x.tests(n), cases);
        for (int i = 0; i < 4; i++) {
            checks.due(when + ": test(" + i + ")", x.test(i), i < row.length ? row[i] : NONE);
        }
    }

    /** Promise 40: "TESTS of at most n (1 .. 3)". */
    private static void testsOfAtMost() {
        TreatyClaims x = marked(0, 1, 2, 4, 8);
        tests("four unlike ones", x, 1, 1, 0);
        tests("four unlike ones", x, 2, 2, 0, 1);
        tests("four unlike ones", x, 3, 3, 0, 1, 2);
        for (int n : new int[] {Integer.MIN_VALUE, -1, 0, 4, Integer.MAX_VALUE}) {
            checks.due("tests(" + n + ")", x.tests(n), RANGE);
        }
        tests("two", marked(0, 1, 2), 3, 2, 0, 1);
        tests("one", marked(0, 1), 3, 1, 0);
        tests("one", marked(0, 1), 1, 1, 0);
    }

    /** "(Of as many the fewest CLAIMS, then the least row.)" */
    private static void testsFewestThenLeast() {
        tests("one is as many as two", marked(0, 5, 5, 5), 3, 3, 0);
        tests("two are as many as three", marked(0, 5, 6, 5, 6), 3, 4, 0, 1);
        tests("a greater number alone ahead of two lesser", marked(1, 1, 2, 0), 3, 3, 2);
        tests("the least row of one", marked(0, 1, 2, 2, 4, 4), 1, 2, 1);
        tests("the least row of two", marked(0, 1, 2, 2, 4, 4), 2, 4, 1, 3);
        tests("the least row of three", marked(0, 1, 2, 2, 4, 4), 3, 5, 0, 1, 3);
        tests("least by its first number", marked(0, 7, 9, 9, 8, 8), 3, 5, 0, 1, 3);
        TreatyClaims x = marked(0, 1, 2, 2, 4, 4);
        x.withdraw(1);
        tests("of OPEN ones alone", x, 2, 3, 0, 3);
        x.vote(3, 0, 0);
        tests("of OPEN ones alone", x, 3, 3, 0, 2, 4);
        TreatyClaims y = marked(0, 1, 2, 2, 4);
        y.withdraw(2);
        tests("one whose only like is a later one that isn't OPEN", y, 1, 1, 0);
        y.vote(0, 0, 0);
        tests("the first isn't OPEN", y, 3, 2, 1, 3);
    }

    /** Promise 41: "The i-th CLAIM of the latest tests(); NONE." */
    private static void testNumbers() {
        TreatyClaims x = marked(0, 1, 2, 4);
        checks.due("ahead of any", x.test(0), NONE);
        x.tests(2);
        for (int i : new int[] {Integer.MIN_VALUE, -1, 2, 3, Integer.MAX_VALUE}) {
            checks.due("test(" + i + ")", x.test(i), NONE);
        }
        checks.due("test(1)", x.test(1), 1);
        x.withdraw(0);
        checks.due("of the latest, though it is WITHDRAWN since", x.test(0), 0);
        x.tests(1);
        checks.due("of the latest", x.test(0), 1);
        checks.due("which has no more", x.test(1), NONE);
    }

    /** CLAIMS on THINGS of their own, each with the DUE told, all of one W. */
    private static TreatyClaims ofDues(String rules, int... dues) {
        TreatyClaims x = Checks.withPersons(2);
        Checks.rules(x, 0, "need ship 0;" + rules);
        for (int c = 0; c < dues.length; c++) {
            x.thing(0, 0, dues[c]);
            Checks.claim(x, 0, c, 0, 999999, "ship");
        }
        return x;
    }

    /** "its DUE times the sum over the DUE of that one .. (cut ..)". */
    private static void spreadIsCut() {
        TreatyClaims x = ofDues("", 100, 100, 99, 1, 999999, 101);
        x.vote(0, 99, 99);
        checks.due("spread", x.spread(0), 5);
        int[] sums = {99, 99, 98, 0, 989999, 99};
        for (int c = 0; c < sums.length; c++) {
            checks.due("the sum of " + c, x.about(c, 8), sums[c]);
        }
        TreatyClaims y = ofDues("", 999999, 999998);
        y.vote(0, 999998, 999998);
        checks.due("spread of great ones", y.spread(0), 1);
        checks.due("the sum", y.about(1, 8), 999997);
        TreatyClaims z = ofDues("", 5, 999999);
        z.vote(0, 0, 0);
        checks.due("spread of 0", z.spread(0), 1);
        checks.due("the sum is 0", z.about(1, 8), 0);
    }

    /** "at most its DUE": a LOT can give more than the DUE that is kept with it. */
    private static void spreadAtMostItsDue() {
        TreatyClaims x = splitOne(40, 50);
        x.thing(0, 0, 70);
        Checks.claim(x, 0, 1, 0, 70, "ship");
        Checks.claim(x, 0, 0, 1, 100, "boat");
        Checks.rules(x, 0, "need ship 0;need boat 0;order cargo;split umpire;");
        checks.due("its DUE is nothing now", x.due(0), 0);
        Checks.rules(x, 0, "need ship 0;need boat 0;split umpire;");
        Checks.claim(x, 0, 0, 0, 150, "boat");
        checks.due("its DUE is less now", x.due(0), 25);
        checks.due("a sum above it", x.lot(0, 0, 50), 1);
        checks.due("spread", x.spread(0), 1);
        checks.due("at most its DUE, not twice as much", x.about(1, 8), 70);
    }

    /** "all 0 if that is 0". */
    private static void spreadAllNothing() {
        TreatyClaims x = splitOne(40, 50);
        x.thing(0, 0, 70);
        Checks.claim(x, 0, 1, 0, 70, "ship");
        Checks.claim(x, 0, 0, 1, 100, "boat");
        Checks.rules(x, 0, "need ship 0;need boat 0;order cargo;split umpire;");
        checks.due("a sum where nothing is DUE", x.lot(0, 0, 50), 1);
        checks.due("spread", x.spread(0), 1);
        checks.due("STATE", x.about(1, 7), DECIDED);
        checks.due("0", x.about(1, 8), 0);
    }

    /** "each OPEN LIKE CASE of it is DECIDED by number": so the lower ones have what a cap lets. */
    private static void spreadByNumber() {
        TreatyClaims x = ofDues("cap 1;split umpire;test 1;", 600, 600, 600, 600, 600);
        x.mark(4, 3);
        x.vote(2, 300, 300);
        checks.due("spread", x.spread(2), 3);
        int[] awards = {300, 300, 300, 100, 0};
        for (int c = 0; c < 5; c++) {
            checks.due("AWARD of " + c, x.about(c, 9), awards[c]);
        }
        checks.due("one that isn't like it", x.about(4, 7), OPEN);
        checks.due("spread again", x.spread(2), 0);
        checks.due("spread of an OPEN one", x.spread(4), STATE);
        x.vote(4, 1, 2);
        checks.due("spread of a SPLIT one", x.spread(4), STATE);
        x.mark(4, 0);
        checks.due("a like one that is SPLIT", x.spread(2), 0);
        checks.due("stays so", x.about(4, 7), SPLIT);
        for (int c : new int[] {Integer.MIN_VALUE, -1, 5, Integer.MAX_VALUE}) {
            checks.due("spread(" + c + ")", x.spread(c), RANGE);
        }
    }

    /** "a DECIDED one, at most late days ago": late, and one more. */
    private static void againAtMostLateDays() {
        for (int late : new int[] {0, 1, 7, 1998}) {
            TreatyClaims x = claimed(100, "late " + late + ";", 0, 60);
            Checks.claim(x, 0, 0, 0, 60, "ship");
            x.vote(0, 1, 1);
            Checks.passTo(x, late);
            checks.due("late " + late + ", nothing unlike", x.again(0), 0);
            x.pass(1);
            checks.due("a day later, nothing unlike", x.again(0), STATE);
            x.withdraw(1);
            checks.due("a day later, its DUE is unlike", x.again(0), STATE);
            checks.due("it is DECIDED still", x.about(0, 7), DECIDED);
            TreatyClaims y = claimed(100, "late " + late + ";", 0, 60);
            Checks.claim(y, 0, 0, 0, 60, "ship");
            y.vote(0, 1, 1);
            Checks.passTo(y, late);
            y.withdraw(1);
            checks.due("late " + late + ", its DUE is unlike", y.again(0), 1);
        }
        TreatyClaims x = claimed(100, "late 1999;", 0, 60);
        x.vote(0, 1, 1);
        Checks.passTo(x, 1999);
        x.nation(0, 1, 0);
        checks.due("from the first day to the last", x.again(0), 1);
    }

    /** "if what fails now is unlike to what failed then, or its DUE is". */
    private static void againIfUnlike() {
        TreatyClaims x = claimed(100, "late 5;weigh a 1;need boat 1;", 0);
        Checks.claim(x, 0, 0, 0, 60, "boat");
        Checks.claim(x, 0, 0, 0, 90, "boat");
        x.vote(0, 0, 0);
        checks.due("nothing", x.again(0), 0);
        Checks.rules(x, 0, "late 5;weigh a 1;need boat 1;must boat a;");
        checks.due("another one fails, 0 is DUE as before", x.again(0), 1);
        x.vote(0, 0, 0);
        checks.due("nothing since then", x.again(0), 0);
        Checks.paper(x, 0, NONE, 0, "a");
        checks.due("it is PROVEN now", x.again(0), 1);
        x.vote(0, 60, 60);
        Checks.paper(x, 1, NONE, 0, "a");
        checks.due("its DUE is unlike", x.again(0), 1);
        x.vote(0, 0, 0);
        x.withdraw(1);
        checks.due("its DUE is unlike again", x.again(0), 1);
        TreatyClaims y = claimed(100, "late 5;need boat 1;must boat a;", 0);
        Checks.claim(y, 0, 0, 0, 60, "boat");
        y.vote(0, 0, 0);
        Checks.rules(y, 0, "late 5;need boat 1;");
        checks.due("one fails no more, 0 is DUE as before", y.again(0), 1);
        y.vote(0, 0, 0);
        Checks.rules(y, 0, "late 5;need boat 0;must boat a;");
        checks.due("another one fails instead", y.again(0), 1);
    }

    /** "is OPEN again .. its AWARD is none then"; promise 43: "STATE: it isn't DECIDED". */
    private static void againIsOpenThen() {
        TreatyClaims x = splitOne(10, 20);
        checks.due("of a SPLIT one", x.again(0), STATE);
        x.lot(0, 0, 15);
        x.nation(0, 1, 0);
        checks.due("again", x.again(0), 1);
        int[] want = {OPEN, 0, 0, 0, NONE, 0, 0};
        for (int i = 0; i < want.length; i++) {
            checks.due("about(0, " + (7 + i) + ")", x.about(0, 7 + i), want[i]);
        }
        checks.due("all AWARDS", x.count(8), 0);
        checks.due("of an OPEN one", x.again(0), STATE);
        x.withdraw(0);
        checks.due("of a WITHDRAWN one", x.again(0), STATE);
        for (int c : new int[] {Integer.MIN_VALUE, -1, 1, Integer.MAX_VALUE}) {
            checks.due("again(" + c + ")", x.again(c), RANGE);
        }
    }

    /** Promise 32: "STATE: it isn't OPEN", also for one that is WITHDRAWN already. */
    private static void withdrawOpenOnes() {
        TreatyClaims x = claimed(100, "split umpire;", 0, 10, 10, 10, 10);
        x.vote(0, 1, 2);
        x.vote(1, 1, 1);
        checks.due("of an OPEN one", x.withdraw(2), 1);
        int[] states = {SPLIT, DECIDED, WITHDRAWN, OPEN};
        for (int c = 0; c < 3; c++) {
            checks.due("withdraw(" + c + ")", x.withdraw(c), STATE);
        }
        for (int c = 0; c < 4; c++) {
            checks.due("STATE of " + c, x.about(c, 7), states[c]);
        }
        for (int c : new int[] {Integer.MIN_VALUE, -1, 4, Integer.MAX_VALUE}) {
            checks.due("withdraw(" + c + ")", x.withdraw(c), RANGE);
        }
    }

    /** Promise 36: "1 if it was otherwise, else 0". */
    private static void umpireWasOtherwise() {
        TreatyClaims x = Checks.withPersons(2);
        checks.due("off, at first", x.umpire(1, false), 0);
        checks.due("on", x.umpire(1, true), 1);
        checks.due("on again", x.umpire(1, true), 0);
        checks.due("the other", x.umpire(0, true), 1);
        checks.due("off", x.umpire(1, false), 1);
        checks.due("off again", x.umpire(1, false), 0);
        for (int p : new int[] {Integer.MIN_VALUE, -1, 2, 60, Integer.MAX_VALUE}) {
            checks.due("umpire(" + p + ", true)", x.umpire(p, true), RANGE);
            checks.due("umpire(" + p + ", false)", x.umpire(p, false), RANGE);
        }
        x.nation(0, 3, 0);
        x.dead(0, 0);
        checks.due("one who is DEAD is on it still", x.umpire(0, true), 0);
        checks.due("but not for a LOT", x.lots(), 0);
    }
}
