/** Promises 1 to 3: a new object, feed, end; and that each call that reads the tape empties it. */
public final class TapeTest {
    private static final Checks checks = new Checks();

    public static void main(String[] args) {
        newObject();
        feedAndEnd();
        highestByteFirst();
        readersEmptyIt();
        checks.close("TapeTest");
    }

    private static void newObject() {
        TreatyClaims x = new TreatyClaims();
        for (int what = 0; what <= 10; what++) {
            checks.due("new: count(" + what + ")", x.count(what), 0);
        }
        for (int state = 0; state < 4; state++) {
            checks.due("new: count of state " + state, x.count(20 + state), 0);
        }
        checks.due("new: fault(0)", x.fault(0), 0);
        checks.due("new: fault(1)", x.fault(1), TreatyClaims.NONE);
        checks.due("new: test(0)", x.test(0), TreatyClaims.NONE);
        checks.due("new: lots()", x.lots(), 0);
        checks.due("new: wave()", x.wave(), 0);
        checks.due("new: last()", x.last(), 0);
        checks.due("NONE", TreatyClaims.NONE, -1);
        checks.due("RANGE", TreatyClaims.RANGE, -2);
        checks.due("FULL", TreatyClaims.FULL, -3);
        checks.due("STATE", TreatyClaims.STATE, -4);
        newSides();
    }

    /** SIDES are 0 and 1 at first: of four umpires, one a nation, those of 2 and 3 are for a lot. */
    private static void newSides() {
        TreatyClaims x = Checks.withPersons(4);
        for (int p = 0; p < 4; p++) {
            x.nation(p, p, 0);
            x.umpire(p, true);
            checks.due("new: lots() with " + p, x.lots(), Math.max(0, p - 1));
        }
    }

    private static void feedAndEnd() {
        TreatyClaims x = new TreatyClaims();
        checks.due("end(1) of none", x.end(1), TreatyClaims.NONE);
        checks.due("end(0) of none", x.end(0), 0);
        for (int i = 1; i <= 30; i++) {
            checks.due("feed " + i, x.feed(i, -1, 0, 1, 2), 20 * i);
        }
        checks.due("feed beyond 600", x.feed(0, 0, 0, 0, 0), TreatyClaims.FULL);
        checks.due("length then", x.count(10), 600);
        checks.due("end(601)", x.end(601), TreatyClaims.NONE);
        checks.due("end(-1)", x.end(-1), TreatyClaims.NONE);
        checks.due("end(600)", x.end(600), 600);
        checks.due("end(581)", x.end(581), 581);
        checks.due("feed with 19 left", x.feed(0, 0, 0, 0, 0), TreatyClaims.FULL);
        checks.due("end(582) of 581", x.end(582), TreatyClaims.NONE);
        checks.due("end(580)", x.end(580), 580);
        checks.due("feed with 20 left", x.feed(0, 0, 0, 0, 0), 600);
        checks.due("end(0)", x.end(0), 0);
        checks.due("count(10)", x.count(10), 0);
    }

    private static void highestByteFirst() {
        TreatyClaims x = new TreatyClaims();
        Checks.rules(x, 0, "weigh abcdefghijkl 7;");
        x.feed(0x61626364, 0x65666768, 0x696a6b6c, 0, 0);
        x.end(12);
        checks.due("kind of 'abcdefghijkl'", x.kind(0), 0);
        x.feed(0x64636261, 0x65666768, 0x696a6b6c, 0, 0);
        x.end(12);
        checks.due("kind of 'dcbaefghijkl'", x.kind(0), TreatyClaims.NONE);
        x.feed(0x20202020, 0x20202020, 0x20202020, 0x2020200a, 0x0a202061);
        x.feed(0x62636465, 0x66676869, 0x6a6b6c20, 0x20202020, 0x20202020);
        checks.due("kind of it with blanks, over two feeds", x.kind(0), 0);
    }

    private static void readersEmptyIt() {
        TreatyClaims x = Checks.withPersons(1);
        x.thing(0, 0, 5);
        emptied(x, "rules(4)", 'r', 4, TreatyClaims.RANGE);
        emptied(x, "rules(0)", 'r', 0, TreatyClaims.NONE);
        emptied(x, "need(-1)", 'n', -1, TreatyClaims.RANGE);
        emptied(x, "need(3)", 'n', 3, 10);
        emptied(x, "kind(4)", 'k', 4, TreatyClaims.RANGE);
        emptied(x, "kind(0)", 'k', 0, TreatyClaims.NONE);
        emptied(x, "paper of none", 'p', 0, TreatyClaims.RANGE);
        emptied(x, "claim of none", 'c', 1, TreatyClaims.RANGE);
        emptied(x, "claim", 'c', 0, 0);
        emptied(x, "paper", 'p', 0, 0);
        Checks.write(x, "word");
        x.count(10);
        x.fault(0);
        x.rule(0, 0);
        checks.due("bytes that nothing read", x.count(10), 4);
    }

    private static void emptied(TreatyClaims x, String call, char which, int n, int want) {
        Checks.write(x, "word");
        int got;
        switch (which) {
            case 'r':
                got = x.rules(n);
                break;
            case 'n':
                got = x.need(n);
                break;
            case 'k':
                got = x.kind(n);
                break;
            case 'p':
                got = x.paper(n, -1, 0);
                break;
            default:
                got = x.claim(n, 0, 0, 0, 0, 1);
        }
        checks.due(call, got, want);
        checks.due("tape behind " + call, x.count(10), 0);
    }
}
