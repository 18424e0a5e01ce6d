/** Promises 4 to 11 and 14: days, persons, nations, deaths, heirs, sides. */
public final class PeopleTest {
    private static final Checks checks = new Checks();
    private static final int NONE = TreatyClaims.NONE;
    private static final int RANGE = TreatyClaims.RANGE;
    private static final int FULL = TreatyClaims.FULL;

    public static void main(String[] args) {
        days();
        persons();
        nations();
        deaths();
        heirs();
        tellingsEnd();
        sides();
        checks.close("PeopleTest");
    }

    private static void days() {
        TreatyClaims x = new TreatyClaims();
        checks.due("pass(0)", x.pass(0), RANGE);
        checks.due("pass(-1)", x.pass(-1), RANGE);
        checks.due("pass(501)", x.pass(501), RANGE);
        checks.due("pass(MAX)", x.pass(Integer.MAX_VALUE), RANGE);
        checks.due("pass(1)", x.pass(1), 1);
        checks.due("pass(500)", x.pass(500), 501);
        checks.due("pass(500) again", x.pass(500), 1001);
        checks.due("pass(500) a third time", x.pass(500), 1501);
        checks.due("pass(499)", x.pass(499), RANGE);
        checks.due("pass(498)", x.pass(498), 1999);
        checks.due("pass(1) on the last day", x.pass(1), RANGE);
        checks.due("count(0)", x.count(0), 1999);
    }

    private static void persons() {
        TreatyClaims x = new TreatyClaims();
        for (int i = 0; i < 60; i++) {
            checks.due("person " + i, x.person(), i);
        }
        checks.due("person 60", x.person(), FULL);
        checks.due("count(1)", x.count(1), 60);
        checks.due("purse of the last", x.purse(59), 0);
        checks.due("purse of none", x.purse(60), RANGE);
    }

    private static void nations() {
        TreatyClaims x = Checks.withPersons(2);
        checks.due("nation of none", x.nation(2, 0, 0), RANGE);
        checks.due("nation of -1", x.nation(-1, 0, 0), RANGE);
        checks.due("nation 4", x.nation(0, 4, 0), RANGE);
        checks.due("nation -1", x.nation(0, -1, 0), RANGE);
        checks.due("nation from -1", x.nation(0, 1, -1), RANGE);
        checks.due("nation from 2000", x.nation(0, 1, 2000), RANGE);
        checks.due("without", x.nationOn(0, 1999, 1999), 0);
        checks.due("nation 1 from 50", x.nation(0, 1, 50), 1);
        x.pass(10);
        checks.due("nation 2 from 20", x.nation(0, 2, 20), 2);
        checks.due("on 19", x.nationOn(0, 19, 10), 0);
        checks.due("on 20", x.nationOn(0, 20, 10), 2);
        checks.due("on 20, as known ahead", x.nationOn(0, 20, 9), 0);
        checks.due("on 50: the latest first day, not what was told last", x.nationOn(0, 50, 10), 1);
        checks.due("nation 3 from 50", x.nation(0, 3, 50), 3);
        checks.due("on 50: of one day that told last", x.nationOn(0, 50, 10), 3);
        checks.due("on 50, as known ahead", x.nationOn(0, 50, 9), 1);
        checks.due("on 1999, known on 1999", x.nationOn(0, 1999, 1999), 3);
        checks.due("of the other", x.nationOn(1, 1999, 1999), 0);
        checks.due("nationOn of none", x.nationOn(2, 0, 0), RANGE);
        checks.due("nationOn of a day 2000", x.nationOn(0, 2000, 0), RANGE);
        checks.due("nationOn of a day -1", x.nationOn(0, -1, 0), RANGE);
        checks.due("nationOn known on 2000", x.nationOn(0, 0, 2000), RANGE);
        checks.due("nationOn known on -1", x.nationOn(0, 0, -1), RANGE);
    }

    private static void deaths() {
        TreatyClaims x = Checks.withPersons(2);
        checks.due("dead: none", x.dead(2, 0), RANGE);
        checks.due("dead: -1", x.dead(-1, 0), RANGE);
        checks.due("dead from 2000", x.dead(0, 2000), RANGE);
        checks.due("dead from -1", x.dead(0, -1), RANGE);
        checks.due("dead from 30", x.dead(0, 30), 1);
        x.pass(5);
        checks.due("dead from 20", x.dead(0, 20), 2);
        checks.due("dead from 40", x.dead(0, 40), 3);
        checks.due("on 19", x.deadOn(0, 19, 5), 0);
        checks.due("on 20", x.deadOn(0, 20, 5), 1);
        checks.due("on 29, as known ahead", x.deadOn(0, 29, 4), 0);
        checks.due("on 30, as known ahead", x.deadOn(0, 30, 0), 1);
        checks.due("on 1999", x.deadOn(0, 1999, 1999), 1);
        checks.due("the other", x.deadOn(1, 1999, 1999), 0);
        checks.due("deadOn of none", x.deadOn(2, 0, 0), RANGE);
        checks.due("deadOn of a day 2000", x.deadOn(0, 2000, 0), RANGE);
        checks.due("deadOn known on 2000", x.deadOn(0, 0, 2000), RANGE);
        checks.due("deadOn known on -1", x.deadOn(0, 0, -1), RANGE);
    }

    private static void heirs() {
        TreatyClaims x = Checks.withPersons(4);
        checks.due("heir of none", x.heir(4, 0, 1), RANGE);
        checks.due("heir: none", x.heir(0, 4, 1), RANGE);
        checks.due("heir: -1", x.heir(0, -1, 1), RANGE);
        checks.due("heir of oneself", x.heir(0, 0, 1), RANGE);
        checks.due("0 parts", x.heir(0, 1, 0), RANGE);
        checks.due("100 parts", x.heir(0, 1, 100), RANGE);
        checks.due("99 parts", x.heir(0, 3, 99), 1);
        x.pass(1);
        checks.due("another", x.heir(0, 1, 1), 2);
        x.pass(1);
        checks.due("the first anew", x.heir(0, 3, 2), 3);
        checks.due("a third", x.heir(0, 2, 7), 4);
        checks.due("of another one", x.heir(1, 0, 5), 5);
        checks.due("who 0", x.heirOn(0, 2, 0, 0), 3);
        checks.due("parts 0", x.heirOn(0, 2, 0, 1), 2);
        checks.due("parts 0, as known ahead", x.heirOn(0, 1, 0, 1), 99);
        checks.due("who 1", x.heirOn(0, 2, 1, 0), 1);
        checks.due("who 1, as known ahead of it", x.heirOn(0, 0, 1, 0), NONE);
        checks.due("who 2", x.heirOn(0, 2, 2, 0), 2);
        checks.due("parts 2", x.heirOn(0, 1999, 2, 1), 7);
        checks.due("who 3", x.heirOn(0, 2, 3, 0), NONE);
        checks.due("who -1", x.heirOn(0, 2, -1, 0), NONE);
        checks.due("what 2", x.heirOn(0, 2, 0, 2), NONE);
        checks.due("what -1", x.heirOn(0, 2, 0, -1), NONE);
        checks.due("heirOn of none", x.heirOn(4, 2, 0, 0), NONE);
        checks.due("heirOn known on -1", x.heirOn(0, -1, 0, 0), NONE);
        checks.due("heirOn known on 2000", x.heirOn(0, 2000, 0, 0), NONE);
    }

    private static void tellingsEnd() {
        TreatyClaims x = Checks.withPersons(60);
        for (int i = 1; i <= 200; i++) {
            int told = i % 3 == 0 ? x.nation(0, 1, 5) : i % 3 == 1 ? x.dead(59, 1999) : x.heir(0, 1 + i % 59, 1);
            checks.due("telling " + i, told, i);
        }
        checks.due("nation beyond 200", x.nation(0, 1, 5), FULL);
        checks.due("dead beyond 200", x.dead(0, 5), FULL);
        checks.due("heir beyond 200", x.heir(0, 1, 5), FULL);
        checks.due("RANGE ahead of FULL", x.heir(0, 0, 5), RANGE);
        checks.due("count(2)", x.count(2), 200);
        checks.due("nothing more came", x.deadOn(0, 1999, 1999), 0);
    }

    private static void sides() {
        TreatyClaims x = Checks.withPersons(4);
        for (int p = 0; p < 4; p++) {
            x.nation(p, p, 0);
            x.umpire(p, true);
        }
        checks.due("sides alike", x.sides(2, 2), RANGE);
        checks.due("sides 4", x.sides(4, 0), RANGE);
        checks.due("sides -1", x.sides(0, -1), RANGE);
        checks.due("sides -1, the first", x.sides(-1, 0), RANGE);
        checks.due("sides 4, the second", x.sides(0, 4), RANGE);
        checks.due("lots() as before", x.lots(), 2);
        checks.due("sides", x.sides(0, 3), 1);
        x.umpire(1, false);
        checks.due("lots() with nations 0, 2, 3", x.lots(), 1);
        x.umpire(2, false);
        checks.due("lots() with nations 0, 3", x.lots(), 0);
        checks.due("sides 1 and 2", x.sides(1, 2), 1);
        checks.due("lots() of 0, 3", x.lots(), 2);
        checks.due("sides 3 and 1", x.sides(3, 1), 1);
        checks.due("lots() of 0", x.lots(), 1);
        checks.due("sides 3 and 0", x.sides(3, 0), 1);
        checks.due("lots() of none", x.lots(), 0);
    }
}
