/** The edges that "== 1. People and kit" names, a sentence at a time. Arguments: see ArgumentsTest. */
public final class PeopleAndKitEdgesTest {
    private static final Check CHECK = new Check("PeopleAndKitEdgesTest");

    public static void main(String[] args) {
        atFirst();
        nobody();
        eightPeople();
        skillsFromNoneToNine();
        placesFromFirstToLast();
        tiredFromNone();
        tiredUpToAHundred();
        tiredByTakes();
        tiredHalves();
        noKit();
        twelvePieces();
        guardFromOneToNinety();
        usesDownToNone();
        fitOnThreeDays();
        neverInspectedIsNotFit();
        usedUpIsNotFit();
        fitLapsesWithTheDay();
        putToNone();
        CHECK.end();
    }

    /** "DAY is 0 at first. WIND is 0 to 9 (0 at first); there is LIGHT or not (at first there is)." */
    private static void atFirst() {
        Stuntledger x = new Stuntledger();
        CHECK.due("DAY at first", x.many(0), 0);
        CHECK.due("WIND at first", x.many(1), 0);
        CHECK.due("LIGHT at first", x.many(2), 1);
        x.person(false, false);
        x.gag(2, 0, 50, 10);
        CHECK.due("ENERGY of cars in the first WIND", x.ofGag(0, 4), 60);
        CHECK.due("weather(9, true)", x.weather(9, true), 0);
        CHECK.due("ENERGY of cars in the greatest WIND", x.ofGag(0, 4), 150);
        CHECK.due("weather(0, true)", x.weather(0, true), 0);
        CHECK.due("ENERGY of cars in no WIND", x.ofGag(0, 4), 60);
        CHECK.due("pass(1) from DAY 0", x.pass(1), 1);
    }

    /** Without PEOPLE there is nothing to be asked of anybody, and no GAG to be told. */
    private static void nobody() {
        Stuntledger x = new Stuntledger();
        CHECK.due("PEOPLE", x.many(3), 0);
        CHECK.due("PEOPLE that are HURT", x.many(9), 0);
        CHECK.due("all PAY", x.many(12), 0);
        CHECK.outside(x, "ofPerson(0, 0)", () -> x.ofPerson(0, 0));
        CHECK.outside(x, "skill(0, 0, 0)", () -> x.skill(0, 0, 0));
        CHECK.outside(x, "walk(0, 0)", () -> x.walk(0, 0));
        CHECK.outside(x, "gag(0, 0, 0, 1)", () -> x.gag(0, 0, 0, 1));
        CHECK.due("weather(9, false)", x.weather(9, false), 0);
        CHECK.due("pass(30)", x.pass(30), 30);
    }

    /** "PEOPLE: at most 8, numbered from 0": with seven one more is taken, with eight none. */
    private static void eightPeople() {
        Stuntledger x = new Stuntledger();
        for (int i = 0; i < 8; i++) {
            int next = i;
            CHECK.outside(x, "ofPerson() of the next", () -> x.ofPerson(next, 6));
            CHECK.due("person()", x.person(false, false), i);
            CHECK.due("PEOPLE", x.many(3), i + 1);
        }
        CHECK.state(x, "the ninth person()", () -> x.person(false, false));
        CHECK.state(x, "the ninth person(), a MINOR", () -> x.person(true, false));
        CHECK.state(x, "the ninth person(), a MEDIC", () -> x.person(false, true));
        CHECK.state(x, "the ninth person(), both", () -> x.person(true, true));
        CHECK.outside(x, "ofPerson(8, 6)", () -> x.ofPerson(8, 6));
        CHECK.due("walk(7, 99) of the last", x.walk(7, 99), 0);
        CHECK.due("gag() of the last", x.gag(0, 7, 0, 1), 0);
        CHECK.due("no() of the last", x.no(7, 0, true), false);
        CHECK.due("who says NO", x.ofGag(0, 10), 128);
    }

    /** "each with a SKILL (0 to 9) in each of four KINDS (all 0 at first)": a MARGIN knows its own KIND's alone. */
    private static void skillsFromNoneToNine() {
        for (int kind = 0; kind < 4; kind++) {
            Stuntledger x = new Stuntledger();
            x.person(false, false);
            x.gag(kind, 0, 50, 1);
            int energy = x.ofGag(0, 4);
            CHECK.due("MARGIN at first", x.ofGag(0, 7), 20 - energy);
            for (int other = 0; other < 4; other++) {
                CHECK.due("skill() of 9", x.skill(0, other, 9), 0);
                CHECK.due("MARGIN of KIND " + kind + " with 9 up to " + other,
                        x.ofGag(0, 7), (other >= kind ? 45 : 0) + 20 - energy);
            }
            CHECK.due("skill() of 0", x.skill(0, kind, 0), 9);
            CHECK.due("MARGIN with 0 again", x.ofGag(0, 7), 20 - energy);
        }
    }

    /** "at a PLACE (0 to 99; 0 at first)". */
    private static void placesFromFirstToLast() {
        Stuntledger x = new Stuntledger();
        x.person(false, false);
        CHECK.due("PLACE at first", x.ofPerson(0, 6), 0);
        CHECK.due("walk(0, 99)", x.walk(0, 99), 0);
        CHECK.due("PLACE", x.ofPerson(0, 6), 99);
        CHECK.illegal(x, "walk(0, 100)", () -> x.walk(0, 100));
        CHECK.due("PLACE behind that", x.ofPerson(0, 6), 99);
        CHECK.due("walk(0, 0)", x.walk(0, 0), 0);
        CHECK.illegal(x, "walk(0, -1)", () -> x.walk(0, -1));
        CHECK.due("PLACE behind that", x.ofPerson(0, 6), 0);
    }

    /** "TIRED (0 to 100; 0)": 30 less a DAY goes down to 0, and no further. */
    private static void tiredFromNone() {
        int[][] tiredThen = {{0, 0}, {3, 0}, {27, 0}, {30, 0}, {33, 3}, {60, 30}, {99, 69}, {100, 70}};
        for (int[] c : tiredThen) {
            Stuntledger x = Stage.crew();
            x.gag(3, 0, 50, 1);
            Stage.tire(x, 0, c[0]);
            x.pass(1);
            CHECK.due("TIRED by " + c[0] + ", a DAY later", x.ofPerson(0, 7), c[1]);
            CHECK.due("TIRED of one who is not, a DAY later", x.ofPerson(1, 7), 0);
        }
        // One take of energy 10 makes 1 of it: 13 behind it, 28, 31.
        int[][] rehearsalsTiredThen = {{0, 13, 0}, {5, 28, 0}, {6, 31, 1}, {7, 34, 4}};
        for (int[] c : rehearsalsTiredThen) {
            Stuntledger x = Stage.armed(0, 1);
            x.take(0);
            for (int i = 0; i < c[0]; i++) {
                x.rehearse(0);
            }
            CHECK.due("TIRED", x.ofPerson(0, 7), c[1]);
            x.pass(1);
            CHECK.due("TIRED by " + c[1] + ", a DAY later", x.ofPerson(0, 7), c[2]);
        }
    }

    /** "3 more TIRED in each case (100 at most)": from 97, 98, 99 and 100. */
    private static void tiredUpToAHundred() {
        Stuntledger x = Stage.crew();
        x.gag(3, 0, 50, 1);
        Stage.tire(x, 0, 96);
        int[] then = {99, 100, 100};
        for (int due : then) {
            x.rehearse(0);
            CHECK.due("TIRED from 96 on", x.ofPerson(0, 7), due);
        }
        x.pass(3);
        CHECK.due("TIRED three DAYS later", x.ofPerson(0, 7), 10);
        Stage.tire(x, 0, 97);
        x.rehearse(0);
        CHECK.due("TIRED from 97 on", x.ofPerson(0, 7), 100);
        Stuntledger y = Stage.armed(0, 2);
        y.take(0);
        CHECK.due("TIRED behind a take() of ENERGY 20", y.ofPerson(0, 7), 14);
        Stage.tire(y, 0, 98);
        y.rehearse(0);
        CHECK.due("TIRED from 98 on", y.ofPerson(0, 7), 100);
        // A rehearsal that is a MISS tires as well.
        Stuntledger z = new Stuntledger();
        z.person(false, false);
        z.gag(0, 0, 50, 30);
        for (int i = 1; i <= 35; i++) {
            CHECK.due("rehearse() of what is beyond one", z.rehearse(0), 0);
            CHECK.due("TIRED behind MISS " + i, z.ofPerson(0, 7), i <= 33 ? 3 * i : 100);
        }
        CHECK.due("MISSES", z.ofKind(0, false), 35);
    }

    /** "ENERGY / 10 more TIRED (100 at most)". */
    private static void tiredByTakes() {
        int[][] aheadLevelThen = {{96, 4, 100}, {96, 3, 99}, {93, 6, 99}, {93, 7, 100}, {93, 8, 100}, {99, 1, 100}};
        for (int[] c : aheadLevelThen) {
            Stuntledger x = Stage.guarded(0, c[1], 90);
            x.gag(3, 0, 90, 1);
            Stage.prepareAndArm(x, 0);
            Stage.tire(x, 1, c[0]);
            x.take(0);
            CHECK.due("TIRED by " + c[0] + ", behind a take() of LEVEL " + c[1], x.ofPerson(0, 7), c[2]);
        }
        Stuntledger y = Stage.guarded(0, 9, 90);
        y.gag(3, 0, 90, 1);
        Stage.prepareAndArm(y, 0);
        for (int i = 0; i < 40; i++) {
            y.rehearse(1);
        }
        CHECK.due("TIRED", y.ofPerson(0, 7), 100);
        y.take(0);
        CHECK.due("TIRED by 100, behind a take()", y.ofPerson(0, 7), 100);
        // 9 is no ten, 10 is one, 15 is one, 20 are two.
        int[][] kindLevelMore = {{1, 1, 0}, {3, 1, 0}, {2, 1, 0}, {3, 2, 1}, {3, 3, 1}, {1, 6, 1}, {3, 4, 2}, {0, 5, 5}};
        for (int[] c : kindLevelMore) {
            Stuntledger x = Stage.armed(c[0], c[1]);
            x.take(0);
            CHECK.due("TIRED by a take() of KIND " + c[0] + ", LEVEL " + c[1], x.ofPerson(0, 7), 12 + c[2]);
        }
    }

    /** "less TIRED of the PERFORMER / 2", rounded down. */
    private static void tiredHalves() {
        Stuntledger x = Stage.crew();
        x.gag(3, 0, 50, 1);
        for (int tired = 0; tired <= 99; tired += 3) {
            Stage.tire(x, 0, tired);
            CHECK.due("MARGIN by one TIRED by " + tired, x.ofGag(0, 7), 45 + 20 - 5 - tired / 2);
        }
        Stage.tire(x, 0, 100);
        CHECK.due("MARGIN by one TIRED by 100", x.ofGag(0, 7), 10);
        Stuntledger y = Stage.armed(0, 1);
        y.take(0);
        CHECK.due("MARGIN by one TIRED by 13", y.ofGag(0, 7), 45 + 20 - 10 - 6);
    }

    private static void noKit() {
        Stuntledger x = Stage.crew();
        x.gag(0, 0, 50, 5);
        CHECK.due("KIT", x.many(4), 0);
        CHECK.due("KIT that is FIT", x.many(5), 0);
        CHECK.due("GUARD without KIT", x.ofGag(0, 6), 0);
        CHECK.due("needs() without KIT", x.needs(0), 0);
        CHECK.outside(x, "ofKit(0, 0)", () -> x.ofKit(0, 0));
        CHECK.outside(x, "inspect(0)", () -> x.inspect(0));
        CHECK.outside(x, "put(0, 0)", () -> x.put(0, 0));
        CHECK.outside(x, "put(0, -1)", () -> x.put(0, -1));
        CHECK.outside(x, "put(-1, -1)", () -> x.put(-1, -1));
    }

    /** "KIT: at most 12 pieces, numbered from 0". */
    private static void twelvePieces() {
        Stuntledger x = Stage.crew();
        x.gag(0, 0, 50, 30);
        for (int i = 0; i < 12; i++) {
            int next = i;
            CHECK.outside(x, "inspect() of the next", () -> x.inspect(next));
            CHECK.due("kit()", x.kit(0, 1, 1), i);
            CHECK.due("KIT", x.many(4), i + 1);
            x.inspect(i);
            x.put(i, 0);
            CHECK.due("GUARD of " + (i + 1), x.ofGag(0, 6), i + 1);
            CHECK.due("KIT that is FIT", x.many(5), i + 1);
        }
        CHECK.state(x, "the thirteenth kit()", () -> x.kit(0, 1, 1));
        CHECK.state(x, "the thirteenth kit(), the greatest", () -> x.kit(3, 90, 5));
        CHECK.outside(x, "ofKit(12, 0)", () -> x.ofKit(12, 0));
        CHECK.outside(x, "put(12, -1)", () -> x.put(12, -1));
    }

    /** "with a GUARD (1 to 90)". */
    private static void guardFromOneToNinety() {
        Stuntledger x = Stage.crew();
        x.gag(1, 0, 50, 10);
        x.kit(1, 1, 1);
        x.kit(1, 90, 1);
        CHECK.illegal(x, "kit() of GUARD 0", () -> x.kit(1, 0, 1));
        CHECK.illegal(x, "kit() of GUARD 91", () -> x.kit(1, 91, 1));
        for (int k = 0; k < 2; k++) {
            x.inspect(k);
            x.put(k, 0);
        }
        CHECK.due("GUARD of the least and the greatest", x.ofGag(0, 6), 91);
        x.put(1, -1);
        CHECK.due("GUARD of the least", x.ofGag(0, 6), 1);
    }

    /** "USES that are left (1 to 5)": each take() is one, the last leaves 0, and then there is none to take. */
    private static void usesDownToNone() {
        Stuntledger x = Stage.crew();
        x.gag(3, 0, 50, 1);
        for (int k = 0; k < 5; k++) {
            x.kit(3, 10, k + 1);
            x.put(k, 0);
        }
        for (int take = 1; take <= 7; take++) {
            for (int k = 0; k < 5; k++) {
                x.inspect(k);
            }
            int fit = take <= 5 ? 6 - take : 0;
            CHECK.due("FIT ahead of take() " + take, x.many(5), fit);
            CHECK.due("GUARD ahead of take() " + take, x.ofGag(0, 6), 10 * fit);
            Stage.prepareAndArm(x, 0);
            x.take(0);
            for (int k = 0; k < 5; k++) {
                CHECK.due("USES of piece " + k + " behind take() " + take, x.ofKit(k, 2), Math.max(0, k + 1 - take));
            }
            x.pass(1);
        }
    }

    /** "INSPECTED on this DAY or on one of the two DAYS ahead". */
    private static void fitOnThreeDays() {
        for (int day = 0; day <= 4; day++) {
            Stuntledger x = Stage.crew();
            x.kit(0, 10, 1);
            if (day > 0) {
                x.pass(day);
            }
            CHECK.due("inspect() on DAY " + day, x.inspect(0), -1);
            for (int later = 0; later <= 4; later++) {
                CHECK.due("FIT " + later + " DAYS later", x.ofKit(0, 5), later <= 2 ? 1 : 0);
                CHECK.due("how many are FIT " + later + " DAYS later", x.many(5), later <= 2 ? 1 : 0);
                x.pass(1);
            }
            CHECK.due("inspect() 5 DAYS later", x.inspect(0), day);
            CHECK.due("FIT again", x.ofKit(0, 5), 1);
        }
    }

    /** NONE is -1, but no DAY: on DAY 0 and on DAY 1 as well, such a piece is not FIT. */
    private static void neverInspectedIsNotFit() {
        Stuntledger x = Stage.crew();
        x.gag(0, 0, 50, 30);
        x.kit(0, 10, 5);
        x.put(0, 0);
        for (int day = 0; day <= 4; day++) {
            CHECK.due("INSPECTED, on DAY " + day, x.ofKit(0, 3), -1);
            CHECK.due("FIT, on DAY " + day, x.ofKit(0, 5), 0);
            CHECK.due("how many are FIT, on DAY " + day, x.many(5), 0);
            CHECK.due("GUARD, on DAY " + day, x.ofGag(0, 6), 0);
            x.pass(1);
        }
    }

    /** "It is FIT, if it has USES left": an inspection does not help what has none. */
    private static void usedUpIsNotFit() {
        for (int uses = 1; uses <= 2; uses++) {
            Stuntledger x = Stage.crew();
            x.gag(3, 0, 50, 1);
            x.kit(3, 10, uses);
            x.inspect(0);
            x.put(0, 0);
            Stage.prepareAndArm(x, 0);
            CHECK.due("take() with the GUARD", x.take(0), 10 + 45 + 20 - 5 - 6);
            CHECK.due("FIT with " + (uses - 1) + " left", x.ofKit(0, 5), uses - 1);
            CHECK.due("inspect() then", x.inspect(0), 0);
            CHECK.due("FIT with " + (uses - 1) + " left, INSPECTED", x.ofKit(0, 5), uses - 1);
            CHECK.due("GUARD with " + (uses - 1) + " left", x.ofGag(0, 6), 10 * (uses - 1));
        }
    }

    /** GUARD, what is used by a take(), and what is needed all go by what is FIT on the DAY. */
    private static void fitLapsesWithTheDay() {
        for (int days = 1; days <= 3; days++) {
            Stuntledger x = Stage.guarded(3, 1, 10);
            Stage.prepare(x, 0);
            x.pass(days);
            CHECK.due("GUARD " + days + " DAYS later", x.ofGag(0, 6), days <= 2 ? 10 : 0);
            Stage.arm(x, 0);
            CHECK.due("take() " + days + " DAYS later", x.take(0), (days <= 2 ? 10 : 0) + 45 + 20 - 5);
            CHECK.due("USES behind that", x.ofKit(0, 2), days <= 2 ? 4 : 5);
        }
    }

    /** "the GAG to which it is put (NONE)", and "if it is that GAG already, or none already". */
    private static void putToNone() {
        Stuntledger x = Stage.crew();
        x.kit(0, 10, 1);
        CHECK.due("the GAG at first", x.ofKit(0, 4), -1);
        CHECK.state(x, "put(0, -1) at first", () -> x.put(0, -1));
        CHECK.outside(x, "put(0, 0) without GAGS", () -> x.put(0, 0));
        for (int g = 0; g < 6; g++) {
            x.gag(0, 0, 50, 1);
        }
        int before = -1;
        for (int g = 0; g < 6; g++) {
            int same = g;
            CHECK.due("put() on to " + g, x.put(0, g), before);
            CHECK.state(x, "put() to the same", () -> x.put(0, same));
            before = g;
        }
        CHECK.outside(x, "put(0, 6)", () -> x.put(0, 6));
        CHECK.outside(x, "put(0, -2)", () -> x.put(0, -2));
        CHECK.due("put(0, -1)", x.put(0, -1), 5);
        CHECK.state(x, "put(0, -1) again", () -> x.put(0, -1));
    }
}
