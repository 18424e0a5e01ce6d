/** The edges of Terms I, but for the tape: days, what is KNOWN, NATION, DEAD, HEIRS, RATES. A method a sentence. */
public final class DaysEdgeTest {
    private static final Checks checks = new Checks();
    private static final int NONE = TreatyClaims.NONE;
    private static final int RANGE = TreatyClaims.RANGE;
    private static final int[] EDGES = {0, 1, 1998, 1999};

    public static void main(String[] args) {
        clockAtFirst();
        clockEnds();
        knownFromTheClocksDayOn();
        nationFromAFirstDayOn();
        nationOfTheLatestFirstDay();
        nationOfOneDayToldLast();
        nationWithout();
        deadFromAFirstDayOn();
        deadByAnyTelling();
        heirsToldByThen();
        heirsPartsToldLatest();
        heirsInTheirOrder();
        heirIsAnotherOne();
        partsBounds();
        sidesAreUnlike();
        rateFromADayOn();
        rateOfTheLatestDay();
        rateOfOneDayToldLast();
        rateWithout();
        ratePenceBounds();
        checks.close("DaysEdgeTest");
    }

    /** "the CLOCK's is 0 at first". */
    private static void clockAtFirst() {
        TreatyClaims x = new TreatyClaims();
        checks.due("count(0)", x.count(0), 0);
        checks.due("a thing lost on day 1", x.thing(1, 0, 5), RANGE);
        checks.due("a thing lost on day 0", x.thing(0, 0, 5), 0);
    }

    /** Promise 4: "So many days (1 .. 500) pass .. RANGE, also beyond 1999". */
    private static void clockEnds() {
        for (int n : new int[] {Integer.MIN_VALUE, -500, -1, 0, 501, 2000, Integer.MAX_VALUE}) {
            TreatyClaims x = new TreatyClaims();
            checks.due("pass(" + n + ")", x.pass(n), RANGE);
            checks.due("the clock then", x.count(0), 0);
        }
        checks.due("pass(1)", new TreatyClaims().pass(1), 1);
        checks.due("pass(500)", new TreatyClaims().pass(500), 500);
        TreatyClaims x = new TreatyClaims();
        Checks.passTo(x, 1500);
        checks.due("beyond 1999 by one", x.pass(500), RANGE);
        checks.due("the clock then", x.count(0), 1500);
        checks.due("up to 1999", x.pass(499), 1999);
        for (int n : new int[] {1, 500, Integer.MAX_VALUE, Integer.MAX_VALUE - 1998}) {
            checks.due("from the last day, pass(" + n + ")", x.pass(n), RANGE);
        }
        checks.due("the clock at last", x.count(0), 1999);
    }

    /** "each KNOWN from the CLOCK's day on", which may be the first and the last of all days. */
    private static void knownFromTheClocksDayOn() {
        for (int day : EDGES) {
            TreatyClaims x = Checks.withPersons(2);
            Checks.passTo(x, day);
            x.nation(0, 3, 0);
            x.dead(0, 0);
            x.heir(0, 1, 5);
            for (int known : EDGES) {
                String when = "told on " + day + ", as known on " + known;
                checks.due("NATION " + when, x.nationOn(0, 0, known), known >= day ? 3 : 0);
                checks.due("DEAD " + when, x.deadOn(0, 0, known), known >= day ? 1 : 0);
                checks.due("HEIR " + when, x.heirOn(0, known, 0, 1), known >= day ? 5 : NONE);
            }
        }
    }

    /** "a first day not behind that day". */
    private static void nationFromAFirstDayOn() {
        for (int from : EDGES) {
            TreatyClaims x = Checks.withPersons(1);
            x.nation(0, 2, from);
            for (int day : EDGES) {
                checks.due("NATION from " + from + ", on " + day, x.nationOn(0, day, 0), day >= from ? 2 : 0);
            }
        }
    }

    /** "of those KNOWN by then .. the one with the latest first day", however they were told. */
    private static void nationOfTheLatestFirstDay() {
        TreatyClaims x = Checks.withPersons(1);
        x.nation(0, 1, 7);
        x.nation(0, 2, 6);
        checks.due("on 5", x.nationOn(0, 5, 0), 0);
        checks.due("on 6", x.nationOn(0, 6, 0), 2);
        checks.due("on 7", x.nationOn(0, 7, 0), 1);
        x.pass(1);
        x.nation(0, 3, 8);
        checks.due("on 8", x.nationOn(0, 8, 1), 3);
        checks.due("on 8, as known the day ahead", x.nationOn(0, 8, 0), 1);
    }

    /** "of one day that told last". */
    private static void nationOfOneDayToldLast() {
        TreatyClaims x = Checks.withPersons(1);
        x.nation(0, 1, 0);
        x.nation(0, 2, 0);
        checks.due("told on one day", x.nationOn(0, 0, 0), 2);
        x.pass(1);
        x.nation(0, 0, 0);
        checks.due("told 0 last", x.nationOn(0, 0, 1), 0);
        checks.due("as known ahead of it", x.nationOn(0, 0, 0), 2);
    }

    /** "0 without": nothing told, told for a later day, told later, told of another. */
    private static void nationWithout() {
        TreatyClaims x = Checks.withPersons(2);
        checks.due("nothing told", x.nationOn(0, 1999, 1999), 0);
        x.pass(1);
        x.nation(0, 3, 5);
        checks.due("for a later day", x.nationOn(0, 4, 1), 0);
        checks.due("later", x.nationOn(0, 5, 0), 0);
        checks.due("of another", x.nationOn(1, 1999, 1999), 0);
    }

    /** DEAD: "a first day not behind the day". */
    private static void deadFromAFirstDayOn() {
        for (int from : EDGES) {
            TreatyClaims x = Checks.withPersons(2);
            x.dead(1, from);
            for (int day : EDGES) {
                checks.due("DEAD from " + from + ", on " + day, x.deadOn(1, day, 0), day >= from ? 1 : 0);
                checks.due("the other on " + day, x.deadOn(0, day, 0), 0);
            }
        }
    }

    /** DEAD: "some TELLING": a later one with a later day doesn't call anybody back. */
    private static void deadByAnyTelling() {
        TreatyClaims x = Checks.withPersons(1);
        x.dead(0, 10);
        x.dead(0, 20);
        checks.due("on 9", x.deadOn(0, 9, 0), 0);
        checks.due("on 10", x.deadOn(0, 10, 0), 1);
        x.pass(1);
        x.dead(0, 5);
        checks.due("on 5", x.deadOn(0, 5, 1), 1);
        checks.due("on 5, as known ahead", x.deadOn(0, 5, 0), 0);
        checks.due("on 4", x.deadOn(0, 4, 1), 0);
    }

    /** "HEIRS of one as KNOWN on a day: those told by then". */
    private static void heirsToldByThen() {
        TreatyClaims x = Checks.withPersons(4);
        for (int q = 1; q < 4; q++) {
            x.heir(0, q, q);
            x.pass(1);
        }
        for (int known = 0; known < 4; known++) {
            for (int i = 0; i < 4; i++) {
                int who = i <= known && i < 3 ? i + 1 : NONE;
                checks.due("HEIR " + i + " as known on " + known, x.heirOn(0, known, i, 0), who);
            }
        }
    }

    /** "each with the parts told latest by then"; "told anew: these". */
    private static void heirsPartsToldLatest() {
        TreatyClaims x = Checks.withPersons(2);
        x.heir(0, 1, 99);
        x.heir(0, 1, 98);
        x.pass(1);
        checks.due("told anew", x.heir(0, 1, 1), 3);
        checks.due("as known then", x.heirOn(0, 1, 0, 1), 1);
        checks.due("as known ahead of it", x.heirOn(0, 0, 0, 1), 98);
        checks.due("there is one alone", x.heirOn(0, 1, 1, 0), NONE);
    }

    /** "in the order in which they were first told". */
    private static void heirsInTheirOrder() {
        TreatyClaims x = Checks.withPersons(4);
        x.heir(0, 3, 5);
        x.heir(0, 1, 5);
        x.heir(0, 3, 6);
        x.heir(0, 2, 5);
        x.heir(0, 1, 7);
        int[] who = {3, 1, 2};
        int[] parts = {6, 7, 5};
        for (int i = 0; i < 3; i++) {
            checks.due("who " + i, x.heirOn(0, 0, i, 0), who[i]);
            checks.due("parts " + i, x.heirOn(0, 0, i, 1), parts[i]);
        }
    }

    /** "HEIR: another one". One who is DEAD can be an HEIR, and two can be HEIRS of one another. */
    private static void heirIsAnotherOne() {
        TreatyClaims x = Checks.withPersons(2);
        checks.due("of oneself", x.heir(0, 0, 1), RANGE);
        checks.due("of oneself, the last", x.heir(1, 1, 1), RANGE);
        x.dead(1, 0);
        checks.due("one who is DEAD", x.heir(0, 1, 1), 2);
        checks.due("of one another", x.heir(1, 0, 1), 3);
        checks.due("none was told by what was refused", x.heirOn(0, 0, 1, 0), NONE);
    }

    /** "so many parts (1 .. 99)". */
    private static void partsBounds() {
        for (int parts : new int[] {1, 99}) {
            TreatyClaims x = Checks.withPersons(2);
            checks.due("parts " + parts, x.heir(0, 1, parts), 1);
            checks.due("those parts", x.heirOn(0, 0, 0, 1), parts);
        }
        for (int parts : new int[] {Integer.MIN_VALUE, -1, 0, 100, Integer.MAX_VALUE}) {
            TreatyClaims x = Checks.withPersons(2);
            checks.due("parts " + parts, x.heir(0, 1, parts), RANGE);
            checks.due("no TELLING", x.count(2), 0);
        }
    }

    /** Promise 14: "The two SIDES (unlike NATIONS)": every pair. */
    private static void sidesAreUnlike() {
        for (int a = -1; a <= 4; a++) {
            for (int b = -1; b <= 4; b++) {
                TreatyClaims x = Checks.withPersons(4);
                for (int p = 0; p < 4; p++) {
                    x.nation(p, p, 0);
                    x.umpire(p, true);
                }
                boolean right = a >= 0 && a < 4 && b >= 0 && b < 4 && a != b;
                checks.due("sides(" + a + ", " + b + ")", x.sides(a, b), right ? 1 : RANGE);
                for (int p = 0; p < 4; p++) {
                    x.umpire(p, false);
                    boolean ofASide = right ? p == a || p == b : p < 2;
                    int others = x.lots();
                    x.umpire(p, true);
                    checks.due("who is drawn with sides " + a + " and " + b, x.lots() - others, ofASide ? 0 : 1);
                }
            }
        }
    }

    /** "for a day the one told for the latest day not behind it". */
    private static void rateFromADayOn() {
        for (int from : EDGES) {
            TreatyClaims x = new TreatyClaims();
            x.rate(3, from, 77);
            for (int day : EDGES) {
                checks.due("RATE from " + from + ", on " + day, x.rateOn(3, day), day >= from ? 77 : 100);
            }
        }
    }

    private static void rateOfTheLatestDay() {
        TreatyClaims x = new TreatyClaims();
        x.rate(1, 7, 700);
        x.rate(1, 6, 600);
        x.rate(2, 7, 900);
        checks.due("on 5", x.rateOn(1, 5), 100);
        checks.due("on 6", x.rateOn(1, 6), 600);
        checks.due("on 7", x.rateOn(1, 7), 700);
        checks.due("of another on 6", x.rateOn(2, 6), 100);
        checks.due("of another on 7", x.rateOn(2, 7), 900);
    }

    /** "of one day that told last". */
    private static void rateOfOneDayToldLast() {
        TreatyClaims x = new TreatyClaims();
        x.rate(1, 0, 5);
        x.rate(1, 0, 4);
        checks.due("told last", x.rateOn(1, 0), 4);
        x.rate(1, 0, 6);
        checks.due("told last, the greater", x.rateOn(1, 0), 6);
    }

    /** "without, and of CURRENCY 0: 100". */
    private static void rateWithout() {
        TreatyClaims x = new TreatyClaims();
        for (int currency = 0; currency < 4; currency++) {
            checks.due("of " + currency, x.rateOn(currency, 0), 100);
            checks.due("of " + currency + " on the last day", x.rateOn(currency, 1999), 100);
        }
        checks.due("none is told of CURRENCY 0", x.rate(0, 0, 5), RANGE);
        checks.due("so it is 100 still", x.rateOn(0, 0), 100);
        checks.due("nor of 4", x.rate(4, 0, 5), RANGE);
    }

    /** "so many pence (1 .. 99999)". */
    private static void ratePenceBounds() {
        for (int pence : new int[] {1, 99999}) {
            TreatyClaims x = new TreatyClaims();
            checks.due("rate of " + pence, x.rate(1, 0, pence), 1);
            checks.due("that rate", x.rateOn(1, 0), pence);
        }
        for (int pence : new int[] {Integer.MIN_VALUE, -1, 0, 100000, Integer.MAX_VALUE}) {
            TreatyClaims x = new TreatyClaims();
            checks.due("rate of " + pence, x.rate(1, 0, pence), RANGE);
            checks.due("no rate", x.rateOn(1, 0), 100);
            checks.due("the next is the first", x.rate(1, 0, 1), 1);
        }
    }
}
