import java.util.List;

/**
 * Every call with every number that can't be: the last that is right and the first that isn't on each side, and the
 * ends of int. What is refused changes nothing: all that is asked behind it is answered as if it had never been called
 * (but that a call which reads the tape empties it).
 */
public final class RefusedTest {
    private static final Checks checks = new Checks();
    private static final int NONE = TreatyClaims.NONE;
    private static final int RANGE = TreatyClaims.RANGE;
    private static final int STATE = TreatyClaims.STATE;
    private static final int NO_SUCH = -9;
    private static final int DAY = 1999;
    private static final int[] DAYS = {0, DAY};
    private static final int[] VERSIONS = {0, 3};
    private static final int[] PEOPLE = {0, World.PERSONS - 1};
    private static final int[] THINGS = {0, World.THINGS - 1};
    private static final int[] CLAIMS = {0, World.CLAIMS - 1};
    private static final int[] NATIONS = {0, 3};
    private static final List<Integer> UNTOUCHED = World.answers(World.made());
    private static final List<Integer> WITHOUT_TAPE = answersWithoutTape();

    private interface Call {
        int on(TreatyClaims x, int[] a);
    }

    public static void main(String[] args) {
        tape();
        people();
        peopleAsked();
        rates();
        rules();
        rulesAsked();
        things();
        claims();
        papers();
        proofs();
        votes();
        lots();
        cases();
        fund();
        statesAheadOfNumbers();
        checks.close("RefusedTest");
    }

    private static List<Integer> answersWithoutTape() {
        TreatyClaims x = World.made();
        x.end(0);
        return World.answers(x);
    }

    private static String told(String name, int[] a) {
        StringBuilder text = new StringBuilder(name).append('(');
        for (int i = 0; i < a.length; i++) {
            text.append(i == 0 ? "" : ", ").append(a[i]);
        }
        return text.append(')').toString();
    }

    /** A call with one number that can't be, and what is answered behind it. */
    private static void refused(String name, Call call, int want, List<Integer> behind, int... a) {
        TreatyClaims x = World.made();
        checks.due(told(name, a), call.on(x, a), want);
        List<Integer> answers = World.answers(x);
        for (int i = 0; i < behind.size(); i++) {
            checks.due("answer " + i + " behind " + told(name, a), answers.get(i), behind.get(i));
        }
    }

    private static void taken(String name, Call call, int want, int... a) {
        checks.holds(told(name, a) + " isn't refused", call.on(World.made(), a) != want);
    }

    /** Of each number the bounds; one at a time is beyond them, all others are as told. */
    private static void bounded(String name, Call call, int want, List<Integer> behind, int[] right, int[]... bounds) {
        taken(name, call, want, right);
        for (int i = 0; i < bounds.length; i++) {
            int[] a = right.clone();
            for (int n : bounds[i]) {
                a[i] = n;
                taken(name, call, want, a);
            }
            int[] wrong = {Integer.MIN_VALUE, bounds[i][0] - 1, bounds[i][1] + 1, Integer.MAX_VALUE};
            for (int n : wrong) {
                a[i] = n;
                refused(name, call, want, behind, a);
            }
        }
    }

    private static void bounded(String name, Call call, int[] right, int[]... bounds) {
        bounded(name, call, RANGE, UNTOUCHED, right, bounds);
    }

    private static int[] of(int... numbers) {
        return numbers;
    }

    /** Promises 2 and 3. */
    private static void tape() {
        int length = World.ON_TAPE.length();
        bounded("end", (x, a) -> x.end(a[0]), NONE, UNTOUCHED, of(length), of(0, length));
    }

    /** Promises 4, 6, 7, 8, 14, 36. */
    private static void people() {
        bounded("pass", (x, a) -> x.pass(a[0]), of(1), of(1, 500));
        bounded("nation", (x, a) -> x.nation(a[0], a[1], a[2]), of(1, 2, 3), PEOPLE, NATIONS, DAYS);
        bounded("dead", (x, a) -> x.dead(a[0], a[1]), of(1, 3), PEOPLE, DAYS);
        bounded("heir", (x, a) -> x.heir(a[0], a[1], a[2]), of(2, 3, 4), of(0, 5), of(0, 5), of(1, 99));
        for (int p = 0; p < World.PERSONS; p++) {
            refused("heir", (x, a) -> x.heir(a[0], a[1], a[2]), RANGE, UNTOUCHED, p, p, 5);
        }
        bounded("sides", (x, a) -> x.sides(a[0], a[1]), of(1, 2), of(0, 3), of(0, 3));
        for (int nation = 0; nation < 4; nation++) {
            refused("sides", (x, a) -> x.sides(a[0], a[1]), RANGE, UNTOUCHED, nation, nation);
        }
        bounded("umpire on", (x, a) -> x.umpire(a[0], true), of(1), PEOPLE);
        bounded("umpire off", (x, a) -> x.umpire(a[0], false), of(1), PEOPLE);
    }

    /** Promises 9, 10, 11, 47. */
    private static void peopleAsked() {
        bounded("nationOn", (x, a) -> x.nationOn(a[0], a[1], a[2]), of(1, 2, 3), PEOPLE, DAYS, DAYS);
        bounded("deadOn", (x, a) -> x.deadOn(a[0], a[1], a[2]), of(1, 2, 3), PEOPLE, DAYS, DAYS);
        bounded("heirOn", (x, a) -> x.heirOn(a[0], a[1], a[2], a[3]), NONE, UNTOUCHED, of(0, 12, 1, 0), of(0, 0), of(10, DAY),
            of(0, 1), of(0, 1));
        refused("heirOn", (x, a) -> x.heirOn(a[0], a[1], a[2], a[3]), NONE, UNTOUCHED, World.PERSONS, 12, 0, 0);
        refused("heirOn", (x, a) -> x.heirOn(a[0], a[1], a[2], a[3]), NONE, UNTOUCHED, 0, -1, 0, 0);
        bounded("purse", (x, a) -> x.purse(a[0]), of(1), PEOPLE);
    }

    /** Promises 12 and 13. */
    private static void rates() {
        bounded("rate", (x, a) -> x.rate(a[0], a[1], a[2]), of(1, 2, 3), of(1, 3), DAYS, of(1, 99999));
        bounded("rateOn", (x, a) -> x.rateOn(a[0], a[1]), of(1, 2), of(0, 3), DAYS);
    }

    private static int readRules(TreatyClaims x, int v, String text) {
        x.end(0);
        return Checks.rules(x, v, text);
    }

    /** Promises 15 and 17. What was told by a FAULT is kept as it was, but for what fault() answers. */
    private static void rules() {
        Call text = (x, a) -> readRules(x, a[0], "bar 3;weigh x 4;split least;");
        bounded("rules", text, RANGE, WITHOUT_TAPE, of(1), VERSIONS);
        bounded("force", (x, a) -> x.force(a[0]), of(1), VERSIONS);
        for (int v = 0; v < 4; v++) {
            Call fault = (x, a) -> readRules(x, a[0], "bar 4;cap 3;need ship 9;weigh x 4;days 0 9;bar 5;");
            TreatyClaims x = World.made();
            checks.due("rules with a FAULT", fault.on(x, of(v)), NONE);
            checks.due("its place", x.fault(1), 43);
            checks.due("the FAULT that stood ahead of it", readRules(x, 3, "bar 5;bar 6;"), NONE);
            List<Integer> answers = World.answers(x);
            for (int i = 0; i < answers.size(); i++) {
                checks.due("answer " + i + " behind a FAULT in VERSION " + v, answers.get(i), WITHOUT_TAPE.get(i));
            }
        }
    }

    /** Promises 16, 18, 19, 20. */
    private static void rulesAsked() {
        bounded("rule", (x, a) -> x.rule(a[0], a[1]), NO_SUCH, UNTOUCHED, of(0, 0), VERSIONS, of(0, 13));
        bounded("rule of a ROLE", (x, a) -> x.rule(a[0], a[1]), NO_SUCH, UNTOUCHED, of(0, 20), VERSIONS, of(20, 23));
        bounded("rule of a KIND", (x, a) -> x.rule(a[0], a[1]), NO_SUCH, UNTOUCHED, of(0, 30), of(0, 1), of(30, 31));
        bounded("need", (x, a) -> x.need(a[0]), RANGE, WITHOUT_TAPE, of(1), VERSIONS);
        bounded("kind", (x, a) -> x.kind(a[0]), RANGE, WITHOUT_TAPE, of(1), VERSIONS);
        for (int what : of(Integer.MIN_VALUE, -1, 2, Integer.MAX_VALUE)) {
            refused("fault", (x, a) -> x.fault(a[0]), NONE, UNTOUCHED, what);
        }
    }

    /** Promises 21 and 22. */
    private static void things() {
        Call thing = (x, a) -> x.thing(a[0], a[1], a[2]);
        bounded("thing", thing, of(1, 2, 3), of(0, World.TODAY), of(0, 255), of(1, 999999));
        refusedWorths(thing);
        Call lost = (x, a) -> x.lost(a[0], a[1]);
        bounded("lost", lost, NONE, UNTOUCHED, of(0, 0), THINGS, of(0, 5));
    }

    /** Between what is no WORTH (NONE) and the least WORTH lies 0, which can't be. */
    private static void refusedWorths(Call thing) {
        taken("thing", thing, RANGE, 1, 2, NONE);
        refused("thing", thing, RANGE, UNTOUCHED, 1, 2, 0);
        refused("thing", thing, RANGE, UNTOUCHED, 1, 2, -2);
    }

    /** Promises 23, 24, 32, 33. */
    private static void claims() {
        Call claim = (x, a) -> x.claim(a[0], a[1], a[2], a[3], a[4], a[5]);
        bounded("claim", claim, RANGE, WITHOUT_TAPE, of(1, 1, 1, 1, 1, 1), PEOPLE, NATIONS, THINGS, of(0, 3), of(0, 3),
            of(1, 9999999));
        Call noWord = (x, a) -> x.end(0) + x.claim(a[0], a[1], a[2], a[3], a[4], a[5]);
        refused("claim of an empty tape", noWord, NONE, WITHOUT_TAPE, 1, 1, 1, 1, 1, 1);
        refused("claim of an empty tape", noWord, RANGE, WITHOUT_TAPE, 1, 1, 1, 1, 1, 0);
        bounded("mark", (x, a) -> x.mark(a[0], a[1]), of(1, 1), CLAIMS, of(0, 1023));
        bounded("withdraw", (x, a) -> x.withdraw(a[0]), of(1), CLAIMS);
        bounded("about", (x, a) -> x.about(a[0], a[1]), NO_SUCH, UNTOUCHED, of(1, 1), CLAIMS, of(0, 13));
    }

    /** Promises 25 and 26. */
    private static void papers() {
        Call paper = (x, a) -> x.paper(a[0], a[1], a[2]);
        bounded("paper", paper, RANGE, WITHOUT_TAPE, of(1, 1, 1), CLAIMS, of(NONE, World.PERSONS - 1), DAYS);
        Call noWord = (x, a) -> x.end(0) + x.paper(a[0], a[1], a[2]);
        refused("paper of an empty tape", noWord, NONE, WITHOUT_TAPE, 1, 1, 1);
        refused("paper of an empty tape", noWord, RANGE, WITHOUT_TAPE, 1, 1, DAY + 1);
        bounded("forged", (x, a) -> x.forged(a[0], a[1]), of(1, 1), of(0, World.PAPERS - 1), DAYS);
    }

    /** Promises 27 to 31, and 34. */
    private static void proofs() {
        bounded("fails", (x, a) -> x.fails(a[0], a[1], a[2]), of(1, 1, 1), CLAIMS, VERSIONS, DAYS);
        bounded("points", (x, a) -> x.points(a[0], a[1], a[2]), of(1, 1, 1), CLAIMS, VERSIONS, DAYS);
        bounded("lacks", (x, a) -> x.lacks(a[0], a[1], a[2]), of(1, 1, 1), CLAIMS, VERSIONS, DAYS);
        bounded("weakest", (x, a) -> x.weakest(a[0], a[1], a[2]), of(1, 1, 1), CLAIMS, VERSIONS, DAYS);
        bounded("beside", (x, a) -> x.beside(a[0], a[1]), of(1, 1), VERSIONS, VERSIONS);
        bounded("due", (x, a) -> x.due(a[0]), of(1), CLAIMS);
    }

    /** Promise 35. */
    private static void votes() {
        Call vote = (x, a) -> x.vote(a[0], a[1], a[2]);
        bounded("vote", vote, of(World.OPEN, 0, 0), CLAIMS, of(0, World.OPEN_DUE), of(0, World.OPEN_DUE));
        for (int c : of(World.SPLIT, World.DECIDED, World.WITHDRAWN)) {
            refused("vote", vote, STATE, UNTOUCHED, c, 0, 0);
        }
    }

    /** Promise 38. */
    private static void lots() {
        Call lot = (x, a) -> x.lot(a[0], a[1], a[2]);
        bounded("lot", lot, of(World.SPLIT, 0, World.LESSER_VOTE), CLAIMS, of(0, World.LOTS - 1),
            of(World.LESSER_VOTE, World.GREATER_VOTE));
        for (int c : of(World.OPEN, World.DECIDED, World.WITHDRAWN)) {
            refused("lot", lot, STATE, UNTOUCHED, c, 0, World.LESSER_VOTE);
        }
    }

    /** Promises 32, 39 to 43. */
    private static void cases() {
        for (int c : of(World.SPLIT, World.DECIDED, World.WITHDRAWN)) {
            refused("withdraw", (x, a) -> x.withdraw(a[0]), STATE, UNTOUCHED, c);
        }
        bounded("like", (x, a) -> x.like(a[0], a[1]), of(1, 2), CLAIMS, CLAIMS);
        for (int c = 0; c < World.CLAIMS; c++) {
            refused("like", (x, a) -> x.like(a[0], a[1]), RANGE, UNTOUCHED, c, c);
        }
        bounded("tests", (x, a) -> x.tests(a[0]), of(1), of(1, 3));
        bounded("test", (x, a) -> x.test(a[0]), NONE, UNTOUCHED, of(0), of(0, 1));
        bounded("spread", (x, a) -> x.spread(a[0]), of(World.DECIDED), CLAIMS);
        bounded("again", (x, a) -> x.again(a[0]), of(World.DECIDED), CLAIMS);
        for (int c : of(World.SPLIT, World.OPEN, World.WITHDRAWN)) {
            refused("spread", (x, a) -> x.spread(a[0]), STATE, UNTOUCHED, c);
            refused("again", (x, a) -> x.again(a[0]), STATE, UNTOUCHED, c);
        }
        refused("again, nothing unlike", (x, a) -> x.again(a[0]), 0, UNTOUCHED, World.DECIDED);
    }

    /** Promises 44, 46, 48. */
    private static void fund() {
        bounded("fund", (x, a) -> x.fund(a[0]), of(1), of(1, 9999999));
        refused("last", (x, a) -> x.last(), STATE, UNTOUCHED);
        bounded("count", (x, a) -> x.count(a[0]), NONE, UNTOUCHED, of(0), of(0, 10));
        bounded("count of a STATE", (x, a) -> x.count(a[0]), NONE, UNTOUCHED, of(20), of(20, 23));
    }

    /** Promises 35 and 38: "STATE ahead of RANGE of VOTES", "of number, sum"; but no such CLAIM is RANGE. */
    private static void statesAheadOfNumbers() {
        int[] odd = {Integer.MIN_VALUE, -1, 1000, Integer.MAX_VALUE};
        for (int n : odd) {
            for (int c : of(World.SPLIT, World.DECIDED, World.WITHDRAWN)) {
                checks.due("vote(" + c + ", " + n + ", 0)", World.made().vote(c, n, 0), STATE);
                checks.due("vote(" + c + ", 0, " + n + ")", World.made().vote(c, 0, n), STATE);
            }
            for (int c : of(World.OPEN, World.DECIDED, World.WITHDRAWN)) {
                checks.due("lot(" + c + ", " + n + ", 0)", World.made().lot(c, n, 0), STATE);
                checks.due("lot(" + c + ", 0, " + n + ")", World.made().lot(c, 0, n), STATE);
            }
            checks.due("vote on none", World.made().vote(World.CLAIMS, n, n), RANGE);
            checks.due("lot of none", World.made().lot(World.CLAIMS, n, n), RANGE);
        }
    }
}
