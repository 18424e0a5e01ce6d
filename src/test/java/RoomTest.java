/** Every room: the last that finds room, the first that doesn't, and what is answered behind it; within 512 calls each. */
public final class RoomTest {
    private static final Checks checks = new Checks();
    private static final int NONE = TreatyClaims.NONE;
    private static final int RANGE = TreatyClaims.RANGE;
    private static final int FULL = TreatyClaims.FULL;

    public static void main(String[] args) {
        bytes();
        persons();
        for (int last = 0; last < 3; last++) {
            tellings(last);
        }
        heirsOfOne();
        rates();
        things();
        claims();
        papers();
        coin();
        sixtyOnOneThing();
        sixtyLikeCases();
        sixtyAtLast();
        checks.close("RoomTest");
    }

    /** Promise 2: "FULL when there would be more than 600". */
    private static void bytes() {
        TreatyClaims x = new TreatyClaims();
        for (int i = 1; i < 30; i++) {
            checks.due("feed " + i, x.feed(0x20202020, 0x20202020, 0x20202020, 0x20202020, 0x20202020), 20 * i);
        }
        checks.due("end(579)", x.end(579), 579);
        checks.due("to 599", x.feed(0x20202020, 0x20202020, 0x20202020, 0x20202020, 0x20202061), 599);
        checks.due("to 619", x.feed(0x62626262, 0x62626262, 0x62626262, 0x62626262, 0x62626262), FULL);
        checks.due("bytes then", x.count(10), 599);
        checks.due("end(600) of 599", x.end(600), NONE);
        checks.due("what was refused isn't there", x.need(0), 10);
        for (int i = 1; i < 30; i++) {
            x.feed(0x20202020, 0x20202020, 0x20202020, 0x20202020, 0x20202020);
        }
        checks.due("to 600", x.feed(0x20202020, 0x20202020, 0x20202020, 0x20202020, 0x20202061), 600);
        checks.due("to 620", x.feed(0x61616161, 0, 0, 0, 0), FULL);
        checks.due("end(601)", x.end(601), NONE);
        checks.due("end(600)", x.end(600), 600);
        checks.due("all 600 are read", x.need(0), 10);
        checks.due("and there is room again", x.feed(0, 0, 0, 0, 0), 20);
    }

    /** "PERSONS, at most 60, numbered from 0"; promise 5: "FULL". */
    private static void persons() {
        TreatyClaims x = Checks.withPersons(59);
        checks.due("nation of the 60th ahead of it", x.nation(59, 1, 0), RANGE);
        checks.due("the 60th", x.person(), 59);
        checks.due("a 61st", x.person(), FULL);
        checks.due("a 61st once more", x.person(), FULL);
        checks.due("count(1)", x.count(1), 60);
        checks.due("nation of the 60th", x.nation(59, 1, 0), 1);
        checks.due("dead, the 60th", x.dead(59, 0), 2);
        checks.due("heir of the 60th", x.heir(59, 0, 1), 3);
        checks.due("the 60th an heir", x.heir(0, 59, 1), 4);
        checks.due("umpire, the 60th", x.umpire(59, true), 1);
        checks.due("purse of the 60th", x.purse(59), 0);
        checks.due("nation of a 61st", x.nation(60, 1, 0), RANGE);
        checks.due("umpire, a 61st", x.umpire(60, true), RANGE);
        checks.due("purse of a 61st", x.purse(60), RANGE);
    }

    private static int tell(TreatyClaims x, int which) {
        switch (which) {
            case 0:
                return x.nation(2, 3, 7);
            case 1:
                return x.dead(2, 7);
            default:
                return x.heir(2, 1, 7);
        }
    }

    /** "TELLINGS, at most 200", of all three sorts together; the 200th is of one of them. */
    private static void tellings(int last) {
        TreatyClaims x = Checks.withPersons(3);
        for (int i = 1; i < 200; i++) {
            int told = i % 3 == 0 ? x.nation(0, i % 4, i) : i % 3 == 1 ? x.dead(0, i) : x.heir(0, 1, i % 99 + 1);
            checks.due("telling " + i, told, i);
        }
        checks.due("the 200th", tell(x, last), 200);
        for (int which = 0; which < 3; which++) {
            checks.due("a 201st", tell(x, which), FULL);
        }
        checks.due("count(2)", x.count(2), 200);
        checks.due("NATION", x.nationOn(2, 7, 0), last == 0 ? 3 : 0);
        checks.due("DEAD", x.deadOn(2, 7, 0), last == 1 ? 1 : 0);
        checks.due("HEIR", x.heirOn(2, 0, 0, 0), last == 2 ? 1 : NONE);
        Checks.rules(x, 0, "need ship 0;chain always;");
        x.thing(0, 0, 9);
        for (int p = 0; p < 3; p++) {
            Checks.claim(x, p, 0, 0, 3, "ship");
            checks.due("always of NATION 0, as those tell of " + p, x.fails(p, 0, 0), 0);
            x.umpire(p, true);
        }
        x.sides(2, 3);
        checks.due("for a LOT today, as those tell", x.lots(), 3);
        x.pass(7);
        checks.due("for a LOT as the 200th begins", x.lots(), last == 2 ? 2 : 1);
        checks.due("RANGE ahead of FULL: nation", x.nation(3, 0, 0), RANGE);
        checks.due("RANGE ahead of FULL: dead", x.dead(0, 2000), RANGE);
        checks.due("RANGE ahead of FULL: heir", x.heir(0, 0, 1), RANGE);
    }

    /** All others as HEIRS of one, then told anew: there are no more of them then. */
    private static void heirsOfOne() {
        TreatyClaims x = Checks.withPersons(60);
        for (int q = 59; q > 0; q--) {
            x.heir(0, q, 1);
        }
        for (int q = 1; q < 60; q++) {
            checks.due("anew", x.heir(0, q, 1 + q), 59 + q);
        }
        for (int i = 0; i < 59; i++) {
            checks.due("HEIR " + i, x.heirOn(0, 0, i, 0), 59 - i);
            checks.due("parts of " + i, x.heirOn(0, 0, i, 1), 60 - i);
        }
        checks.due("HEIR 59", x.heirOn(0, 0, 59, 0), NONE);
        checks.due("HEIR 60", x.heirOn(0, 0, 60, 0), NONE);
    }

    /** "RATES, at most 60"; promise 12: "FULL". */
    private static void rates() {
        TreatyClaims x = new TreatyClaims();
        for (int i = 1; i < 60; i++) {
            checks.due("rate " + i, x.rate(1 + i % 3, 5, i), i);
        }
        checks.due("the 60th", x.rate(2, 6, 777), 60);
        for (int currency = 1; currency < 4; currency++) {
            checks.due("a 61st", x.rate(currency, 7, 888), FULL);
        }
        checks.due("RANGE ahead of FULL", x.rate(1, 7, 0), RANGE);
        checks.due("of 1", x.rateOn(1, 1999), 57);
        checks.due("of 2", x.rateOn(2, 1999), 777);
        checks.due("of 3", x.rateOn(3, 1999), 59);
    }

    /** "THINGS, at most 30, numbered from 0"; promise 21: "FULL". */
    private static void things() {
        TreatyClaims x = Checks.withPersons(1);
        x.thing(0, 0, NONE);
        for (int t = 1; t < 29; t++) {
            checks.due("thing " + t, x.thing(0, 0, 100 + t), t);
        }
        checks.due("lost(29) ahead of it", x.lost(29, 0), NONE);
        checks.due("the 30th", x.thing(0, 0, 999), 29);
        checks.due("a 31st", x.thing(0, 0, 1), FULL);
        checks.due("a 31st of no WORTH", x.thing(0, 0, NONE), FULL);
        checks.due("RANGE ahead of FULL", x.thing(1, 0, 1), RANGE);
        checks.due("count(3)", x.count(3), 30);
        checks.due("lost(29)", x.lost(29, 2), 999);
        checks.due("lost(30)", x.lost(30, 2), NONE);
        checks.due("WORTH of 29 likes", x.lost(0, 2), 115);
        checks.due("SPAN", x.lost(0, 4), 101);
        checks.due("SPAN's end", x.lost(0, 5), 999);
        checks.due("a claim for the 30th", Checks.claim(x, 0, 29, 0, 1, "ship"), 0);
        checks.due("a claim for a 31st", Checks.claim(x, 0, 30, 0, 1, "ship"), RANGE);
    }

    /** "CLAIMS, at most 60, numbered from 0"; promise 23: "FULL", which is told behind RANGE and NONE. */
    private static void claims() {
        TreatyClaims x = Checks.withPersons(1);
        x.thing(0, 0, 5);
        for (int c = 0; c < 59; c++) {
            Checks.put(x, "ship");
            checks.due("claim " + c, x.claim(0, 0, 0, 0, 0, 1 + c), c);
        }
        checks.due("mark(59) ahead of it", x.mark(59, 1), RANGE);
        checks.due("the 60th", Checks.claim(x, 0, 0, 3, 777, "ship"), 59);
        checks.due("a 61st", Checks.claim(x, 0, 0, 0, 1, "ship"), FULL);
        checks.due("the tape behind it", x.count(10), 0);
        checks.due("a 61st of no W", Checks.claim(x, 0, 0, 0, 1, "5"), NONE);
        checks.due("a 61st of nobody", Checks.claim(x, 1, 0, 0, 1, "ship"), RANGE);
        checks.due("count(4)", x.count(4), 60);
        checks.due("count(20)", x.count(20), 60);
        checks.due("about(59, 4)", x.about(59, 4), 777);
        checks.due("about(60, 4)", x.about(60, 4), -9);
        checks.due("mark(59)", x.mark(59, 1), 0);
        checks.due("withdraw(59)", x.withdraw(59), 1);
        checks.due("there is no room for it all the same", Checks.claim(x, 0, 0, 0, 1, "ship"), FULL);
    }

    /** "PAPERS, at most 150"; promise 25: "FULL", which is told behind RANGE and NONE. */
    private static void papers() {
        TreatyClaims x = Checks.withPersons(1);
        x.thing(0, 0, 5);
        Checks.rules(x, 0, "weigh deed 3;weigh oath 5;weigh bill 7;");
        Checks.put(x, "ship");
        x.claim(0, 0, 0, 0, 0, 5);
        for (int k = 0; k < 149; k++) {
            Checks.put(x, "deed");
            checks.due("paper " + k, x.paper(0, NONE, 0), k);
        }
        checks.due("forged(149) ahead of it", x.forged(149, 0), RANGE);
        Checks.put(x, "oath");
        checks.due("the 150th", x.paper(0, NONE, 0), 149);
        Checks.put(x, "bill");
        checks.due("a 151st", x.paper(0, NONE, 0), FULL);
        checks.due("the tape behind it", x.count(10), 0);
        checks.due("a 151st of no W", x.paper(0, NONE, 0), NONE);
        Checks.put(x, "bill");
        checks.due("a 151st of no CLAIM", x.paper(1, NONE, 0), RANGE);
        checks.due("count(5)", x.count(5), 150);
        checks.due("POINTS", x.points(0, 0, 0), 8);
        checks.due("forged(149)", x.forged(149, 0), 0);
        checks.due("forged(150)", x.forged(150, 0), RANGE);
    }

    /** Promise 44: "RANGE, also if that were above 999999999". */
    private static void coin() {
        TreatyClaims x = new TreatyClaims();
        for (int i = 1; i <= 100; i++) {
            checks.due("fund " + i, x.fund(9999999), 9999999 * i);
        }
        checks.due("above it by one", x.fund(100), RANGE);
        checks.due("above it by much", x.fund(9999999), RANGE);
        checks.due("FUND as it was", x.count(6), 999999900);
        checks.due("coin as it was", x.count(7), 999999900);
        checks.due("up to it", x.fund(99), 999999999);
        checks.due("one more", x.fund(1), RANGE);
        checks.due("FUND", x.count(6), 999999999);
        checks.due("coin", x.count(7), 999999999);
    }

    /** As many PROVEN CLAIMS on one THING as there can be, with no penny left. */
    private static void sixtyOnOneThing() {
        TreatyClaims x = Checks.withPersons(1);
        x.thing(0, 0, 999999);
        Checks.rules(x, 0, "need ship 0;");
        for (int c = 0; c < 60; c++) {
            Checks.put(x, "ship");
            x.claim(0, 0, 0, 2, 0, 999999);
        }
        for (int c = 0; c < 60; c++) {
            checks.due("DUE of " + c, x.due(c), c < 39 ? 16667 : 16666);
        }
        for (int c = 0; c < 60; c += 2) {
            x.withdraw(c);
        }
        for (int c = 0; c < 60; c++) {
            int due = c % 2 == 0 ? 0 : c < 18 ? 33334 : 33333;
            checks.due("DUE of " + c + " as each other one is WITHDRAWN", x.due(c), due);
        }
    }

    private static void sixtyLikeCases() {
        TreatyClaims x = Checks.withPersons(1);
        x.thing(0, 0, 600);
        Checks.rules(x, 0, "need ship 0;test 10;");
        for (int c = 0; c < 60; c++) {
            Checks.put(x, "ship");
            x.claim(0, 0, 0, 0, 0, 10);
        }
        x.mark(59, 1023);
        checks.due("all sixty by one", x.tests(3), 60);
        checks.due("which is", x.test(0), 0);
        checks.due("and no more", x.test(1), NONE);
        x.vote(59, 5, 5);
        checks.due("fifty-nine by the last", x.spread(59), 59);
        checks.due("DECIDED", x.count(22), 60);
        checks.due("the sum of AWARDS", x.count(8), 300);
    }

    /** What is left over at the LAST one is as much as it can be: one penny for each but one. */
    private static void sixtyAtLast() {
        TreatyClaims x = Checks.withPersons(1);
        x.thing(0, 0, 999999);
        Checks.rules(x, 0, "need ship 0;");
        for (int c = 0; c < 60; c++) {
            Checks.put(x, "ship");
            x.claim(0, 0, 0, 0, 0, 100);
        }
        x.vote(59, 100, 100);
        checks.due("spread", x.spread(59), 59);
        x.fund(59);
        checks.due("last()", x.last(), 59);
        for (int c = 0; c < 60; c++) {
            checks.due("paid on " + c, x.about(c, 10), c < 59 ? 1 : 0);
        }
        x.fund(1);
        checks.due("last() of a penny", x.last(), 1);
        checks.due("to the one who wants most", x.about(59, 10), 1);
    }
}
