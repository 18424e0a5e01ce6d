/** "An object is used for at most 512 calls after it has been made": the 512th is answered as any other. */
public final class LastCallTest {
    private static final Checks checks = new Checks();
    private static final int NONE = TreatyClaims.NONE;
    private static final int CALLS = 512;
    /** How many calls made() makes. */
    private static final int MADE = 36;

    private interface Call {
        int on(TreatyClaims x);
    }

    public static void main(String[] args) {
        tapeAndPeople();
        rulesAndProofs();
        decisionsAndFund();
        allOnOne();
        checks.close("LastCallTest");
    }

    private static void tell(TreatyClaims x, int a, int b, int c, int d, int bytes) {
        x.feed(a, b, c, d, 0);
        x.end(bytes);
    }

    /** A CLAIM of each STATE, with all that is about it, and "deed" on the tape: 36 calls. */
    private static TreatyClaims made() {
        TreatyClaims x = new TreatyClaims();
        tell(x, 0x6e656564, 0x20736869, 0x7020303b, 0, 12);
        x.rules(0);
        tell(x, 0x6e656564, 0x20736869, 0x7020303b, 0x73706c69, 16);
        x.feed(0x7420756d, 0x70697265, 0x3b000000, 0, 0);
        x.end(25);
        x.rules(1);
        x.person();
        x.person();
        x.person();
        x.nation(1, 3, 0);
        x.umpire(1, true);
        x.heir(0, 2, 7);
        x.rate(1, 0, 250);
        x.thing(0, 5, 999999);
        for (int c = 0; c < 4; c++) {
            tell(x, 0x73686970, 0, 0, 0, 4);
            x.claim(0, 0, 0, 0, 0, 100 + c);
        }
        x.vote(1, 50, 50);
        x.force(1);
        x.vote(2, 20, 30);
        x.withdraw(3);
        x.tests(1);
        x.fund(40);
        tell(x, 0x64656564, 0, 0, 0, 4);
        return x;
    }

    private static void last(String name, Call call, int want) {
        TreatyClaims x = made();
        for (int i = MADE; i < CALLS - 1; i++) {
            x.count(i);
        }
        checks.due("the 512th call, " + name, call.on(x), want);
    }

    private static void tapeAndPeople() {
        last("feed", x -> x.feed(0, 0, 0, 0, 0), 24);
        last("end", x -> x.end(3), 3);
        last("pass", x -> x.pass(500), 500);
        last("person", x -> x.person(), 3);
        last("nation", x -> x.nation(0, 1, 0), 3);
        last("dead", x -> x.dead(0, 0), 3);
        last("heir", x -> x.heir(0, 1, 99), 3);
        last("nationOn", x -> x.nationOn(1, 0, 0), 3);
        last("deadOn", x -> x.deadOn(1, 0, 0), 0);
        last("heirOn", x -> x.heirOn(0, 0, 0, 1), 7);
        last("rate", x -> x.rate(2, 0, 1), 2);
        last("rateOn", x -> x.rateOn(1, 0), 250);
        last("sides", x -> x.sides(3, 2), 1);
    }

    private static void rulesAndProofs() {
        last("rules", x -> x.rules(2), NONE);
        last("fault", x -> x.fault(0), 0);
        last("force", x -> x.force(3), 1);
        last("rule", x -> x.rule(1, 6), 2);
        last("need", x -> x.need(1), 10);
        last("kind", x -> x.kind(1), NONE);
        last("thing", x -> x.thing(0, 0, NONE), 1);
        last("lost", x -> x.lost(0, 2), 999999);
        last("claim", x -> x.claim(2, 3, 0, 3, 3, 9), 4);
        last("mark", x -> x.mark(0, 1023), 0);
        last("paper", x -> x.paper(0, 0, 0), 0);
        last("forged", x -> x.forged(0, 0), TreatyClaims.RANGE);
        last("fails", x -> x.fails(3, 0, 0), 32);
        last("points", x -> x.points(0, 0, 0), 0);
        last("lacks", x -> x.lacks(0, 2, 0), NONE);
        last("weakest", x -> x.weakest(0, 0, 0), NONE);
        last("beside", x -> x.beside(0, 2), 3);
        last("withdraw", x -> x.withdraw(0), 1);
        last("about", x -> x.about(2, 13), 30);
    }

    private static void decisionsAndFund() {
        last("due", x -> x.due(2), 102);
        last("vote", x -> x.vote(0, 100, 0), 1);
        last("umpire", x -> x.umpire(1, true), 0);
        last("lots", x -> x.lots(), 1);
        last("lot", x -> x.lot(2, 0, 25), 1);
        last("like", x -> x.like(0, 3), 1);
        last("tests", x -> x.tests(3), 1);
        last("test", x -> x.test(0), 0);
        last("spread", x -> x.spread(1), 1);
        last("again", x -> x.again(1), 0);
        last("fund", x -> x.fund(2), 42);
        last("wave", x -> x.wave(), 7);
        last("last", x -> x.last(), TreatyClaims.STATE);
        last("purse", x -> x.purse(0), 0);
        last("count", x -> x.count(10), 4);
    }

    /** 512 calls that all change something. */
    private static void allOnOne() {
        TreatyClaims x = new TreatyClaims();
        for (int i = 1; i <= CALLS; i++) {
            checks.due("call " + i, x.fund(i), i * (i + 1) / 2);
        }
    }
}
