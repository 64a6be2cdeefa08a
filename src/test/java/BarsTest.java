/**
 * What bars a gag: each bar at its edge, and the first of those that hold. "The first of these bars it" is looked
 * at through every set of bars that can hold together.
 */
public final class BarsTest {
    private static final Check CHECK = new Check("BarsTest");

    public static void main(String[] args) {
        everySetOfBars();
        barsInTheirOrder();
        hurtBars();
        noBars();
        stepBars();
        stepBarsWhatWasTaken();
        signaturesBar();
        marginBars();
        marginBarsByOne();
        minorBars();
        minorBarsInWind();
        windBars();
        lightBars();
        medicBars();
        medicBarsAtGreatRings();
        medicBarsAtTheLastPlaces();
        medicWhoPerforms();
        medicWhoIsHurt();
        somebodyBars();
        somebodyBarsWhoeverItIs();
        somebodyBarsAtTheSmallestRing();
        anotherBars();
        anotherBarsAtTheSmallestRings();
        anotherBarsAsRingsGrow();
        barredChangesNothing();
        CHECK.end();
    }

    private static void bar(Stuntledger x, int gag, String when, int want) {
        CHECK.due("what bars it " + when, x.ofGag(gag, 12), want);
        CHECK.due("arm() " + when, x.arm(gag), want);
        CHECK.due("ARMED behind arm() " + when, x.ofGag(gag, 11), want == 0 ? 1 : 0);
    }

    private static boolean has(int set, int bar) {
        return (set & 1 << bar) != 0;
    }

    /** Below step 4 nobody can sign; and no other gag is ARMED in darkness and a wind that bars falls. */
    private static boolean canHoldTogether(int set) {
        return !(has(set, 3) && !has(set, 4)) && !(has(set, 7) && has(set, 8) && has(set, 11));
    }

    private static void everySetOfBars() {
        int looked = 0;
        for (int set = 0; set < 1 << 12; set += 2) {
            if (canHoldTogether(set)) {
                for (int side = -1; side <= 1; side += 2) {
                    Stuntledger x = barredBy(set, side);
                    bar(x, 0, "by the set " + set + ", side " + side, set == 0 ? 0 : Integer.numberOfTrailingZeros(set));
                    looked++;
                }
            }
        }
        CHECK.due("sets of bars", looked, 2 * (2048 - 512 - 192));
    }

    /**
     * Gag 0, falls of level 7 (energy 70, ring 4) at place 50 by person 0, barred by just this set; somebody, the
     * medic and the other armed gag stand just inside or just outside, above or below.
     */
    private static Stuntledger barredBy(int set, int side) {
        Stuntledger x = new Stuntledger();
        x.person(has(set, 6), false);
        x.person(false, true);
        x.person(false, false);
        x.person(false, false);
        x.skill(0, 0, 9);
        x.skill(0, 3, 9);
        x.kit(0, 30, 5);
        x.inspect(0);
        x.gag(0, 0, 50, 7);
        x.put(0, 0);
        for (int i = 0; i < (has(set, 3) ? 3 : 4); i++) {
            x.rehearse(0);
        }
        for (int signer = 0; signer < (has(set, 3) ? 0 : has(set, 4) ? 2 : 3); signer++) {
            x.sign(0, signer);
        }
        if (has(set, 1)) {
            hurtPerformer(x, side);
        }
        if (!(has(set, 7) && has(set, 8))) {
            armAnother(x, has(set, 8) ? 1 : 3, 50 - side * (has(set, 11) ? 5 : 6), side);
        }
        int wind = has(set, 7) ? 8 : has(set, 8) ? 4 : 7;
        CHECK.due("what stands down by the weather of set " + set, x.weather(wind, !has(set, 8)), 0);
        if (has(set, 5)) {
            x.skill(0, 0, 0);
        }
        x.no(2, 0, has(set, 2));
        x.walk(1, 50 + side * (has(set, 9) ? 26 : 25));
        x.walk(2, 50 + side * (has(set, 10) ? 4 : 5));
        CHECK.due("another is ARMED, set " + set, x.many(7) != 0, !(has(set, 7) && has(set, 8)));
        CHECK.due("MISSES, set " + set, x.many(8), 0);
        return x;
    }

    /** Person 0 takes another gag, 40 places away, without skill. */
    private static void hurtPerformer(Stuntledger x, int side) {
        int another = x.gag(3, 0, 50 + side * 40, 5);
        x.walk(1, 50 + side * 30);
        Stage.prepareAndArm(x, another);
        x.skill(0, 3, 0);
        x.take(another);
    }

    /** Person 3's gag, with a ring of 1. */
    private static void armAnother(Stuntledger x, int kind, int place, int side) {
        x.skill(3, kind, 9);
        int another = x.gag(kind, 3, place, kind == 1 ? 6 : 3);
        x.walk(1, place - side * 15);
        Stage.prepareAndArm(x, another);
    }

    /** The bars 1 to 10 hold together for gag 1, and are taken away one by one. */
    private static void barsInTheirOrder() {
        Stuntledger x = new Stuntledger();
        x.person(true, false);
        x.person(false, true);
        x.person(false, false);
        x.person(false, false);
        x.walk(0, 99);
        x.walk(2, 47);
        x.walk(3, 50);
        x.gag(3, 0, 10, 5);
        x.gag(0, 0, 50, 7);
        x.skill(0, 3, 9);
        Stage.prepareAndArm(x, 0);
        x.skill(0, 3, 0);
        x.take(0);
        x.no(2, 1, true);
        x.weather(8, false);
        bar(x, 1, "with all that bars", 1);
        x.pass(5);
        bar(x, 1, "as the PERFORMER is well", 2);
        x.no(2, 1, false);
        bar(x, 1, "as nobody says NO", 3);
        x.skill(0, 0, 9);
        x.kit(0, 90, 5);
        x.inspect(0);
        x.put(0, 1);
        for (int step = 0; step < 4; step++) {
            bar(x, 1, "at STEP " + step, 3);
            x.rehearse(1);
        }
        x.pass(3);
        bar(x, 1, "without SIGNATURES", 4);
        x.sign(1, 0);
        x.sign(1, 1);
        bar(x, 1, "with two SIGNATURES", 4);
        x.sign(1, 2);
        bar(x, 1, "with KIT that is not FIT", 5);
        x.inspect(0);
        bar(x, 1, "with KIT that is FIT", 6);
        x.change(1, 3, 50, 7);
        x.skill(3, 0, 9);
        Stage.prepare(x, 1);
        bar(x, 1, "by one who is no MINOR", 7);
        x.weather(7, false);
        bar(x, 1, "in less WIND", 8);
        x.weather(7, true);
        bar(x, 1, "by daylight", 9);
        x.skill(3, 3, 9);
        x.gag(3, 3, 53, 3);
        x.walk(1, 60);
        Stage.prepareAndArm(x, 2);
        bar(x, 1, "with a MEDIC", 10);
        x.walk(2, 99);
        bar(x, 1, "with nobody in the RING", 11);
        x.down(2);
        bar(x, 1, "with no other that is ARMED", 0);
        CHECK.due("MISSES in all that", x.many(8), 0);
    }

    private static void marginBars() {
        Stuntledger x = Stage.ready(0, 5);
        x.skill(0, 0, 7);
        CHECK.due("MARGIN", x.ofGag(0, 7), 35 + 20 - 50 - 6);
        bar(x, 0, "with -1", 5);
        x.skill(0, 0, 8);
        bar(x, 0, "with 4", 0);
        Stuntledger y = Stage.ready(0, 5);
        for (int i = 0; i < 3; i++) {
            y.rehearse(0);
        }
        y.skill(0, 0, 8);
        CHECK.due("MARGIN", y.ofGag(0, 7), 40 + 20 - 50 - 10);
        bar(y, 0, "with 0", 0);
    }

    private static void minorBars() {
        int[][] kindLevelBar = {{0, 6, 0}, {0, 7, 6}, {1, 1, 6}, {2, 10, 0}, {2, 11, 6}, {3, 12, 0}, {3, 13, 6}};
        for (int[] c : kindLevelBar) {
            Stuntledger x = new Stuntledger();
            x.person(true, false);
            x.person(false, true);
            x.walk(1, 70);
            for (int kind = 0; kind < 4; kind++) {
                x.skill(0, kind, 9);
            }
            x.kit(c[0], 90, 5);
            x.inspect(0);
            x.gag(c[0], 0, 50, c[1]);
            x.put(0, 0);
            Stage.prepare(x, 0);
            bar(x, 0, "of a MINOR, KIND " + c[0] + ", LEVEL " + c[1], c[2]);
        }
    }

    private static void windBars() {
        int[] limits = {7, 4, 6, 9};
        for (int kind = 0; kind < 4; kind++) {
            Stuntledger x = Stage.ready(kind, 1);
            for (int wind = 9; wind >= 0; wind--) {
                x.weather(wind, true);
                CHECK.due("what bars KIND " + kind + " in WIND " + wind, x.ofGag(0, 12), wind > limits[kind] ? 7 : 0);
            }
        }
    }

    private static void lightBars() {
        for (int kind = 0; kind < 4; kind++) {
            Stuntledger x = Stage.ready(kind, 1);
            x.weather(0, false);
            bar(x, 0, "in darkness, KIND " + kind, kind == 1 ? 0 : 8);
        }
    }

    /** Falls of level 5, ring 3, at place 50. */
    private static void medicBars() {
        Stuntledger x = Stage.ready(0, 5);
        int[][] placeBar = {{24, 9}, {25, 0}, {46, 0}, {47, 9}, {50, 9}, {53, 9}, {54, 0}, {75, 0}, {76, 9}};
        for (int[] c : placeBar) {
            x.walk(1, c[0]);
            CHECK.due("what bars it with the MEDIC at " + c[0], x.ofGag(0, 12), c[1]);
        }
        x.person(false, false);
        x.walk(2, 60);
        CHECK.due("what bars it with somebody else", x.ofGag(0, 12), 9);
    }

    private static void somebodyBars() {
        Stuntledger x = Stage.ready(0, 5);
        x.person(false, true);
        int[][] placeBar = {{46, 0}, {47, 10}, {50, 10}, {53, 10}, {54, 0}};
        for (int[] c : placeBar) {
            x.walk(2, c[0]);
            CHECK.due("what bars it with somebody at " + c[0], x.ofGag(0, 12), c[1]);
        }
        x.walk(0, 51);
        bar(x, 0, "with the PERFORMER in the RING", 0);
    }

    /** Rings 3 and 2: six places away is far enough. */
    private static void anotherBars() {
        int[][] placeBar = {{44, 0}, {45, 11}, {50, 11}, {55, 11}, {56, 0}};
        for (int[] c : placeBar) {
            Stuntledger x = Stage.armed(0, 5);
            x.walk(1, 66);
            x.gag(0, 0, c[0], 4);
            Stage.prepare(x, 1);
            CHECK.due("what bars the ARMED one itself", x.ofGag(0, 12), 0);
            bar(x, 1, "at " + c[0] + ", with another at 50", c[1]);
            if (c[1] == 11) {
                x.down(0);
                bar(x, 1, "at " + c[0] + ", with another that is not ARMED", 0);
            }
        }
    }

    /** HURT up to the fourth day behind, not on the fifth. */
    private static void hurtBars() {
        Stuntledger x = Stage.ready(3, 1);
        x.gag(0, 0, 80, 5);
        Stage.prepareAndArm(x, 1);
        bar(x, 0, "ahead of it", 0);
        x.down(0);
        x.skill(0, 0, 0);
        CHECK.due("take() that hurts", x.take(1) < 0, true);
        for (int day = 0; day < 5; day++) {
            bar(x, 0, "as the PERFORMER was HURT " + day + " DAYS ago", 1);
            x.pass(1);
        }
        bar(x, 0, "as the PERFORMER was HURT 5 DAYS ago", 0);
    }

    /** Each of 8 people alone, the performer too; taken back by all but one it still bars. */
    private static void noBars() {
        Stuntledger x = Stage.ready(0, 5);
        for (int p = 2; p < 8; p++) {
            x.person(false, false);
        }
        for (int p = 0; p < 8; p++) {
            x.no(p, 0, true);
            bar(x, 0, "as " + p + " says NO", 2);
            x.no(p, 0, false);
            CHECK.due("what bars it as " + p + " took that back", x.ofGag(0, 12), 0);
        }
        for (int p = 0; p < 8; p++) {
            x.no(p, 0, true);
        }
        for (int p = 7; p >= 0; p--) {
            bar(x, 0, "as " + (p + 1) + " of 8 say NO", 2);
            x.no(p, 0, false);
        }
        bar(x, 0, "as nobody says NO any more", 0);
    }

    private static void stepBars() {
        Stuntledger x = Stage.crew();
        x.gag(0, 0, 50, 5);
        for (int step = 0; step < 4; step++) {
            CHECK.due("STEP", x.ofGag(0, 8), step);
            bar(x, 0, "at STEP " + step, 3);
            x.rehearse(0);
        }
        CHECK.due("STEP", x.ofGag(0, 8), 4);
        bar(x, 0, "at STEP 4", 4);
    }

    private static void stepBarsWhatWasTaken() {
        Stuntledger x = Stage.armed(0, 3);
        x.take(0);
        bar(x, 0, "behind take(), at STEP 3", 3);
        x.rehearse(0);
        bar(x, 0, "behind one rehearsal more, unsigned", 4);
    }

    /** Fewer than three: each set of signers but that of all. */
    private static void signaturesBar() {
        for (int set = 0; set < 8; set++) {
            Stuntledger x = Stage.crew();
            x.gag(0, 0, 50, 5);
            for (int i = 0; i < 4; i++) {
                x.rehearse(0);
            }
            for (int signer = 2; signer >= 0; signer--) {
                if (has(set, signer)) {
                    x.sign(0, signer);
                }
            }
            bar(x, 0, "signed by the set " + set, set == 7 ? 0 : 4);
        }
    }

    /** Falls of level 7: guard, 45, 20, less 70, and less 6 as the performer is tired by 12. */
    private static void marginBarsByOne() {
        for (int guard = 9; guard <= 12; guard++) {
            Stuntledger x = Stage.guarded(0, 7, guard);
            Stage.prepare(x, 0);
            CHECK.due("MARGIN", x.ofGag(0, 7), guard - 11);
            bar(x, 0, "with a MARGIN of " + (guard - 11), guard < 11 ? 5 : 0);
        }
        Stuntledger y = Stage.guarded(0, 7, 11);
        y.gag(3, 0, 90, 1);
        Stage.prepare(y, 0);
        bar(y, 0, "with a MARGIN of 0", 0);
        y.down(0);
        y.rehearse(1);
        CHECK.due("MARGIN as the PERFORMER is TIRED by 15", y.ofGag(0, 7), -1);
        bar(y, 0, "with a MARGIN of -1", 5);
    }

    /** Cars of level 6 have an energy of 60 in wind 4, those of level 7 one of 63 in wind 3. */
    private static void minorBarsInWind() {
        int[][] levelWindBar = {{6, 4, 0}, {6, 5, 6}, {7, 2, 0}, {7, 3, 6}, {5, 6, 0}};
        for (int[] c : levelWindBar) {
            for (int minor = 0; minor < 2; minor++) {
                Stuntledger x = new Stuntledger();
                x.person(minor == 1, false);
                x.person(false, true);
                x.walk(1, 70);
                x.skill(0, 2, 9);
                x.kit(2, 90, 5);
                x.inspect(0);
                x.gag(2, 0, 50, c[0]);
                x.put(0, 0);
                Stage.prepare(x, 0);
                x.weather(c[1], true);
                bar(x, 0, "of cars, LEVEL " + c[0] + ", WIND " + c[1] + (minor == 1 ? ", of a MINOR" : ""), minor * c[2]);
            }
        }
    }

    /** A ring of 24 leaves one place for a medic on each side, a ring of 26 none. */
    private static void medicBarsAtGreatRings() {
        int[][] levelPlaceBar = {
            {27, 25, 0}, {27, 26, 9}, {27, 24, 9}, {27, 74, 9}, {27, 75, 0}, {27, 76, 9},
            {28, 23, 9}, {28, 24, 9}, {28, 25, 9}, {28, 75, 9}, {28, 76, 9}, {28, 77, 9}
        };
        for (int[] c : levelPlaceBar) {
            Stuntledger x = Stage.crew();
            x.gag(1, 0, 50, c[0]);
            for (int k = 0; k < 4; k++) {
                x.kit(1, 90, 5);
                x.inspect(k);
                x.put(k, 0);
            }
            Stage.prepare(x, 0);
            x.walk(1, c[1]);
            CHECK.due("RING", x.ofGag(0, 5), c[0] == 27 ? 24 : 26);
            bar(x, 0, "of fire, LEVEL " + c[0] + ", with the MEDIC at " + c[1], c[2]);
        }
    }

    private static void medicBarsAtTheLastPlaces() {
        int[][] placeMedicBar = {
            {0, 3, 9}, {0, 4, 0}, {0, 25, 0}, {0, 26, 9}, {99, 96, 9}, {99, 95, 0}, {99, 74, 0}, {99, 73, 9},
            {25, 0, 0}, {26, 0, 9}, {74, 99, 0}, {73, 99, 9}
        };
        for (int[] c : placeMedicBar) {
            Stuntledger x = Stage.crew();
            x.gag(0, 0, c[0], 5);
            x.walk(1, c[1]);
            Stage.prepare(x, 0);
            bar(x, 0, "at " + c[0] + ", with the MEDIC at " + c[1], c[2]);
        }
    }

    private static void medicWhoPerforms() {
        Stuntledger x = Stage.crew();
        x.gag(0, 1, 50, 4);
        x.skill(1, 0, 9);
        x.walk(0, 0);
        x.walk(1, 60);
        Stage.prepare(x, 0);
        bar(x, 0, "with a MEDIC who is the PERFORMER", 9);
        x.person(false, true);
        x.walk(2, 40);
        bar(x, 0, "with another", 0);
    }

    private static void medicWhoIsHurt() {
        Stuntledger y = Stage.ready(0, 5);
        y.person(false, true);
        y.walk(2, 90);
        y.skill(1, 0, 9);
        y.gag(0, 1, 99, 3);
        Stage.prepareAndArm(y, 1);
        y.skill(1, 0, 0);
        CHECK.due("take() that hurts the MEDIC", y.take(1), 20 - 30 - 6);
        bar(y, 0, "with a MEDIC who is HURT", 9);
        y.pass(4);
        bar(y, 0, "with a MEDIC who was HURT 4 DAYS ago", 9);
        y.pass(1);
        bar(y, 0, "with a MEDIC who was HURT 5 DAYS ago", 0);
    }

    /** Each of 8 people performs, and each of the others stands in the ring, the medics, too. */
    private static void somebodyBarsWhoeverItIs() {
        for (int performer = 0; performer < 8; performer++) {
            Stuntledger x = new Stuntledger();
            for (int p = 0; p < 8; p++) {
                x.person(false, p != 3);
                x.skill(p, 0, 9);
                x.walk(p, 60);
            }
            x.gag(0, performer, 50, 5);
            Stage.prepare(x, 0);
            for (int p = 0; p < 8; p++) {
                x.walk(p, 50);
                CHECK.due("what bars it of " + performer + " with " + p + " there", x.ofGag(0, 12), p == performer ? 0 : 10);
                x.walk(p, 60);
            }
            bar(x, 0, "of " + performer + " with nobody there", 0);
        }
    }

    /** Fire of level 1 has no energy, and its ring is its own place. */
    private static void somebodyBarsAtTheSmallestRing() {
        for (int place : new int[] {0, 50, 99}) {
            Stuntledger x = Stage.crew();
            x.person(false, false);
            x.gag(1, 0, place, 1);
            x.walk(0, place);
            x.walk(1, place == 0 ? 20 : place - 20);
            Stage.prepare(x, 0);
            CHECK.due("RING", x.ofGag(0, 5), 0);
            x.walk(2, place);
            bar(x, 0, "at " + place + ", with somebody there", 10);
            x.walk(2, place == 99 ? 98 : place + 1);
            bar(x, 0, "at " + place + ", with somebody beside it", 0);
        }
    }

    private static void anotherBarsAtTheSmallestRings() {
        int[][] placeLevelBar = {{50, 1, 11}, {51, 1, 0}, {49, 1, 0}, {51, 6, 11}, {49, 6, 11}, {52, 6, 0}, {48, 6, 0}};
        for (int[] c : placeLevelBar) {
            Stuntledger x = Stage.armed(1, 1);
            x.gag(1, 0, c[0], c[1]);
            Stage.prepare(x, 1);
            CHECK.due("RINGS", x.ofGag(0, 5) + x.ofGag(1, 5), c[1] / 6);
            bar(x, 1, "at " + c[0] + ", LEVEL " + c[1] + ", with another at 50", c[2]);
        }
    }

    /** Both are ARMED side by side; then the wind lets their rings grow over one another: 11 bars, and no more. */
    private static void anotherBarsAsRingsGrow() {
        Stuntledger x = Stage.armed(2, 5);
        x.gag(2, 0, 55, 5);
        Stage.prepareAndArm(x, 1);
        CHECK.due("what bars 0 in no WIND", x.ofGag(0, 12), 0);
        CHECK.due("stood DOWN by WIND 2", x.weather(2, true), 0);
        CHECK.due("what bars 0 in WIND 2", x.ofGag(0, 12) + x.ofGag(1, 12), 0);
        CHECK.due("stood DOWN by WIND 3", x.weather(3, true), 0);
        CHECK.due("what bars 0 in WIND 3", x.ofGag(0, 12), 11);
        CHECK.due("what bars 1 in WIND 3", x.ofGag(1, 12), 11);
        CHECK.due("ARMED", x.many(7), 3);
        x.skill(0, 2, 0);
        CHECK.due("what bars 0 with a MARGIN below 0", x.ofGag(0, 12), 5);
    }

    private static void barredChangesNothing() {
        for (int bar = 1; bar <= 11; bar++) {
            Stuntledger x = barredBy(1 << bar | (bar == 3 ? 1 << 4 : 0), 1);
            long before = x.digest();
            CHECK.due("arm() barred by " + bar, x.arm(0), bar);
            CHECK.due("digest() behind an arm() that is barred by " + bar, x.digest(), before);
        }
    }
}
