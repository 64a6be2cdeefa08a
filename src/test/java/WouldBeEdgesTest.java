import java.math.BigInteger;

/** Promises 24 to 28 at their edges: the greatest and the least, none, and the checksum's wrap-around. */
public final class WouldBeEdgesTest {
    private static final Check CHECK = new Check("WouldBeEdgesTest");
    /** 58230 times 31 to the 22nd, and 31 to the 19th more with LIGHT; the lowest 64 bits of it. */
    private static final long NEW_DIGEST = -7553514878097220267L;
    private static final long DARK_DIGEST = -5793186294783719690L;

    public static void main(String[] args) {
        mostLevelAtTheGreatest();
        mostLevelAtTheLeast();
        mostLevelOfEachLevel();
        mostLevelInWind();
        bestPerformerOfNobody();
        bestPerformerAtTheEdgeOfMinors();
        bestPerformerAmongTheHurt();
        bestPerformerOfEquals();
        bestPerformerByTiredness();
        bestPerformerWhateverElseBars();
        needsAtAMarginOfNone();
        needsJustEnough();
        needsOfEquals();
        needsOfWhatIsFitAndFree();
        needsOfItsKindAlone();
        needsOfTheWholeRow();
        safeFromBesideTheRing();
        safeFromTheLastPlaces();
        safeFromWhatIsArmed();
        safeFromNowhere();
        digestOfANewObject();
        digestWrapsAround();
        digestKnowsEachNumber();
        wouldBeChangesNothing();
        CHECK.end();
    }

    /**
     * Gag 0 of this kind and level by person 0, with a margin of just this, but for the energy: 20, less 50, for
     * the performer is tired by 100, and the guard of as many pieces as it takes.
     */
    private static Stuntledger without(int kind, int level, int withoutEnergy) {
        Stuntledger x = new Stuntledger();
        x.person(false, false);
        x.gag(kind, 0, 50, level);
        x.gag((kind + 1) % 4, 0, 99, 30);
        for (int i = 0; i < 34; i++) {
            x.rehearse(1);
        }
        int left = withoutEnergy + 30;
        for (int k = 0; left > 0; k++) {
            x.kit(kind, Math.min(90, left), 1);
            x.inspect(k);
            x.put(k, 0);
            left -= 90;
        }
        CHECK.due("MARGIN without ENERGY", x.ofGag(0, 7) + x.ofGag(0, 4), withoutEnergy);
        return x;
    }

    private static void mostLevel(int kind, int withoutEnergy, int due) {
        for (int level = 1; level <= 30; level += 29) {
            Stuntledger x = without(kind, level, withoutEnergy);
            String call = "mostLevel() of KIND " + kind + ", LEVEL " + level + ", with " + withoutEnergy;
            CHECK.due(call, x.mostLevel(0), due);
            CHECK.due("LEVEL behind " + call, x.ofGag(0, 3), level);
        }
    }

    /** "the greatest LEVEL (1 to 30)": just enough for 30, one more, much more, and one less. */
    private static void mostLevelAtTheGreatest() {
        int[] energies = {300, 450, 180, 150};
        for (int kind = 0; kind < 4; kind++) {
            mostLevel(kind, energies[kind], 30);
            mostLevel(kind, energies[kind] + 1, 30);
            mostLevel(kind, 1000, 30);
            mostLevel(kind, energies[kind] - 1, 29);
        }
    }

    /** "NONE without one": just enough for 1 and for 2, and one less. Fire of level 1 has no energy. */
    private static void mostLevelAtTheLeast() {
        int[] ofOne = {10, 0, 6, 5};
        int[] ofTwo = {20, 2, 12, 10};
        for (int kind = 0; kind < 4; kind++) {
            mostLevel(kind, ofTwo[kind], 2);
            mostLevel(kind, ofTwo[kind] - 1, 1);
            mostLevel(kind, ofOne[kind], 1);
            mostLevel(kind, ofOne[kind] - 1, -1);
            mostLevel(kind, -29, -1);
        }
    }

    private static void mostLevelOfEachLevel() {
        for (int level = 3; level <= 29; level++) {
            int[] energies = {10 * level, level * level / 2, 6 * level, 5 * level};
            for (int kind = 0; kind < 4; kind++) {
                CHECK.due("mostLevel() with just enough", without(kind, 1, energies[kind]).mostLevel(0), level);
                CHECK.due("mostLevel() with one less", without(kind, 30, energies[kind] - 1).mostLevel(0), level - 1);
            }
        }
    }

    /** Cars alone have another energy in wind: of 90, levels 15 down to 6; of 14, one down to none. */
    private static void mostLevelInWind() {
        int[] of90 = {15, 12, 11, 10, 9, 8, 7, 6, 6, 6};
        for (int wind = 0; wind <= 9; wind++) {
            Stuntledger x = without(2, 1, 90);
            x.weather(wind, wind % 2 == 0);
            CHECK.due("mostLevel() of cars with 90 in WIND " + wind, x.mostLevel(0), of90[wind]);
            Stuntledger y = without(2, 1, 14);
            y.weather(wind, true);
            CHECK.due("mostLevel() of cars with 14 in WIND " + wind, y.mostLevel(0), wind <= 1 ? 2 : wind <= 8 ? 1 : -1);
            Stuntledger z = without(0, 1, 90);
            z.weather(wind, true);
            CHECK.due("mostLevel() of falls with 90 in WIND " + wind, z.mostLevel(0), 9);
        }
    }

    /** "NONE without one": MINORS alone, one who is HURT alone. */
    private static void bestPerformerOfNobody() {
        Stuntledger x = new Stuntledger();
        for (int p = 0; p < 8; p++) {
            x.person(true, p % 2 == 0);
        }
        x.gag(1, 0, 0, 1);
        x.gag(0, 0, 0, 7);
        x.gag(0, 0, 0, 6);
        CHECK.due("bestPerformer() of fire by MINORS", x.bestPerformer(0), -1);
        CHECK.due("bestPerformer() of ENERGY 70 by MINORS", x.bestPerformer(1), -1);
        CHECK.due("bestPerformer() of ENERGY 60 by MINORS", x.bestPerformer(2), 0);
        Stuntledger y = Stage.armed(0, 5);
        y.skill(0, 0, 0);
        CHECK.due("bestPerformer() ahead of it", y.bestPerformer(0), 1);
        y.take(0);
        y.change(0, 1, 50, 5);
        CHECK.due("bestPerformer() of the other alone", y.bestPerformer(0), 1);
    }

    /** "(nobody for whom 6 would hold)": by the energy that the gag has, of cars also by the wind. */
    private static void bestPerformerAtTheEdgeOfMinors() {
        int[][] kindLevelWindBest = {
            {0, 6, 0, 1}, {0, 7, 0, 0}, {1, 1, 0, 0}, {1, 30, 0, 0}, {2, 10, 0, 1}, {2, 11, 0, 0}, {2, 6, 4, 1}, {2, 6, 5, 0},
            {2, 7, 2, 1}, {2, 7, 3, 0}, {2, 4, 9, 1}, {2, 5, 9, 0}, {3, 12, 9, 1}, {3, 13, 9, 0}
        };
        for (int[] c : kindLevelWindBest) {
            for (int performer = 0; performer < 2; performer++) {
                Stuntledger x = new Stuntledger();
                x.person(false, false);
                x.person(true, false);
                x.skill(1, c[0], 9);
                x.weather(c[2], true);
                x.gag(c[0], performer, 0, c[1]);
                CHECK.due("bestPerformer() of KIND " + c[0] + ", LEVEL " + c[1] + ", WIND " + c[2], x.bestPerformer(0), c[3]);
                CHECK.due("PERFORMER behind that", x.ofGag(0, 1), performer);
            }
        }
    }

    /** "who of the PEOPLE that are not HURT": not for four days, and again on the fifth. */
    private static void bestPerformerAmongTheHurt() {
        Stuntledger x = new Stuntledger();
        x.person(false, false);
        x.person(true, true);
        x.skill(0, 0, 9);
        x.walk(1, 70);
        x.gag(0, 0, 50, 5);
        x.gag(1, 0, 50, 5);
        Stage.prepareAndArm(x, 0);
        x.skill(0, 0, 0);
        x.take(0);
        x.skill(0, 0, 9);
        for (int day = 0; day < 5; day++) {
            CHECK.due("bestPerformer() of falls on DAY " + day, x.bestPerformer(0), 1);
            CHECK.due("bestPerformer() of fire, NONE, on DAY " + day, x.bestPerformer(1), -1);
            x.pass(1);
        }
        CHECK.due("bestPerformer() of falls on DAY 5", x.bestPerformer(0), 0);
        CHECK.due("bestPerformer() of fire on DAY 5", x.bestPerformer(1), 0);
    }

    /** "of several the smallest number": through 8 people who are equal, from each one on. */
    private static void bestPerformerOfEquals() {
        for (int first = 0; first < 8; first++) {
            Stuntledger x = new Stuntledger();
            for (int p = 0; p < 8; p++) {
                x.person(false, false);
                x.skill(p, 2, p < first ? 8 : 9);
                x.skill(p, 1, 9 - p);
            }
            x.gag(2, 7, 50, 30);
            CHECK.due("bestPerformer() of those from " + first + " on", x.bestPerformer(0), first);
            x.skill(first, 2, 8);
            CHECK.due("bestPerformer() of those behind " + first, x.bestPerformer(0), first == 7 ? 0 : first + 1);
        }
    }

    /** TIRED / 2 is rounded down: a margin may be equal, though one is more tired. */
    private static void bestPerformerByTiredness() {
        Stuntledger x = Stage.crew();
        x.person(false, false);
        x.skill(2, 0, 9);
        x.gag(0, 0, 50, 1);
        CHECK.due("bestPerformer() of equals", x.bestPerformer(0), 0);
        x.rehearse(0);
        CHECK.due("bestPerformer() as 0 is TIRED by 3", x.bestPerformer(0), 2);
        x.gag(0, 2, 50, 1);
        x.rehearse(1);
        CHECK.due("bestPerformer() as both are TIRED by 3", x.bestPerformer(0), 0);
        x.skill(0, 0, 8);
        for (int tired = 3; tired <= 12; tired += 3) {
            CHECK.due("bestPerformer() by SKILL 8, or TIRED by " + tired, x.bestPerformer(0), tired / 2 <= 5 ? 2 : 0);
            x.rehearse(1);
        }
        // Person 0: 25 for skill 5, less 1 as tired by 3. Person 2: 45 for skill 9, less 21 as tired by 42.
        x.skill(0, 0, 5);
        Stage.tire(x, 1, 42);
        CHECK.due("bestPerformer() of those whose MARGIN is equal", x.bestPerformer(0), 0);
        x.skill(2, 0, 0);
        x.skill(0, 0, 0);
        x.skill(1, 0, 0);
        CHECK.due("bestPerformer() of one who is not TIRED", x.bestPerformer(0), 1);
    }

    /** All else that bars makes no difference: NO, STEP, SIGNATURES, MARGIN, WIND, LIGHT, MEDIC, RING. */
    private static void bestPerformerWhateverElseBars() {
        Stuntledger x = new Stuntledger();
        x.person(false, false);
        x.person(false, false);
        x.skill(1, 0, 1);
        x.gag(0, 0, 0, 30);
        x.no(1, 0, true);
        x.weather(9, false);
        CHECK.due("bestPerformer() with all that", x.bestPerformer(0), 1);
        x.walk(1, 99);
        CHECK.due("bestPerformer() from far away", x.bestPerformer(0), 1);
    }

    /** Gag 0, fights of level 20 with a margin of -80, and free pieces of these guards that are fit. */
    private static Stuntledger inNeed(int... guards) {
        Stuntledger x = new Stuntledger();
        x.person(false, false);
        x.gag(3, 0, 50, 20);
        for (int k = 0; k < guards.length; k++) {
            x.kit(3, guards[k], 1);
            x.inspect(k);
        }
        CHECK.due("MARGIN", x.ofGag(0, 7), -80);
        return x;
    }

    /** "0, if it needs none": at a margin of 0 and of 1, not at -1. */
    private static void needsAtAMarginOfNone() {
        for (int margin = -1; margin <= 1; margin++) {
            Stuntledger x = inNeed(80 + margin, 1);
            x.put(0, 0);
            CHECK.due("MARGIN", x.ofGag(0, 7), margin);
            CHECK.due("needs() at " + margin, x.needs(0), margin < 0 ? 2 : 0);
        }
    }

    /** "as many as it needs for a MARGIN of 0 or more; 0, if all of them are not enough". */
    private static void needsJustEnough() {
        CHECK.due("needs() of 80", inNeed(80).needs(0), 1);
        CHECK.due("needs() of 79", inNeed(79).needs(0), 0);
        CHECK.due("needs() of 81", inNeed(81).needs(0), 1);
        CHECK.due("needs() of 79 and 1", inNeed(79, 1).needs(0), 3);
        CHECK.due("needs() of 78 and 1", inNeed(78, 1).needs(0), 0);
        CHECK.due("needs() of 80 and 1", inNeed(80, 1).needs(0), 1);
        CHECK.due("needs() of 1 and 80", inNeed(1, 80).needs(0), 2);
        CHECK.due("needs() of 40, 39 and 1", inNeed(40, 39, 1).needs(0), 7);
        CHECK.due("needs() of 40, 40 and 1", inNeed(40, 40, 1).needs(0), 3);
        CHECK.due("needs() of 1, 90 and 80", inNeed(1, 90, 80).needs(0), 2);
        CHECK.due("needs() of none", inNeed().needs(0), 0);
    }

    /** "greatest first, of several the smallest number". */
    private static void needsOfEquals() {
        CHECK.due("needs() of equals", inNeed(80, 80, 80).needs(0), 1);
        CHECK.due("needs() of a smaller and equals", inNeed(79, 80, 80).needs(0), 2);
        CHECK.due("needs() of two of equals", inNeed(40, 40, 40).needs(0), 3);
        CHECK.due("needs() of two of equals behind others", inNeed(39, 40, 39, 40, 40).needs(0), 10);
        CHECK.due("needs() of one, and the first of equals", inNeed(30, 30, 50, 30).needs(0), 5);
        CHECK.due("needs() that goes up", inNeed(10, 20, 30, 40).needs(0), 14);
        CHECK.due("needs() that goes down", inNeed(40, 30, 20, 10).needs(0), 7);
    }

    /** "of FIT KIT of its KIND that are put to no GAG": each of the three alone makes a piece no choice. */
    private static void needsOfWhatIsFitAndFree() {
        Stuntledger x = inNeed(90, 89, 88);
        x.gag(3, 0, 50, 1);
        x.kit(2, 90, 5);
        x.inspect(3);
        CHECK.due("needs()", x.needs(0), 1);
        x.put(0, 1);
        CHECK.due("needs() as the first is put to another", x.needs(0), 2);
        x.put(0, -1);
        CHECK.due("needs() as it is free again", x.needs(0), 1);
        x.pass(2);
        CHECK.due("needs() 2 DAYS later", x.needs(0), 1);
        x.pass(1);
        CHECK.due("needs() 3 DAYS later, as none is FIT", x.needs(0), 0);
        x.inspect(2);
        CHECK.due("needs() as the third is FIT", x.needs(0), 4);
        x.change(0, 0, 50, 4);
        CHECK.due("needs() with a MARGIN of 0", x.needs(0), 0);
        x.inspect(1);
        x.put(1, 0);
        x.change(0, 0, 50, 22);
        CHECK.due("MARGIN", x.ofGag(0, 7), -1);
        CHECK.due("needs() with what is put to it", x.needs(0), 4);
    }

    /** Of each kind there is a free piece that is fit: only that of the gag's kind will do. */
    private static void needsOfItsKindAlone() {
        for (int kind = 0; kind < 4; kind++) {
            Stuntledger x = new Stuntledger();
            x.person(false, false);
            x.gag(kind, 0, 50, 8);
            for (int k = 0; k < 4; k++) {
                x.kit(k, k == kind ? 80 : 90, 1);
                x.inspect(k);
            }
            CHECK.due("MARGIN is below 0", x.ofGag(0, 7) < 0, true);
            CHECK.due("needs() of KIND " + kind, x.needs(0), 1 << kind);
            x.put(kind, 0);
            CHECK.due("needs() of KIND " + kind + " with that", x.needs(0), 0);
            x.change(0, 0, 50, 30);
            CHECK.due("MARGIN is below 0", x.ofGag(0, 7) < 0, true);
            CHECK.due("needs() of KIND " + kind + ", of what is left", x.needs(0), 0);
        }
    }

    private static void needsOfTheWholeRow() {
        CHECK.due("needs() of twelve that are enough", inNeed(6, 7, 7, 7, 7, 7, 7, 7, 7, 7, 6, 6).needs(0), 4095);
        CHECK.due("needs() of twelve, the last alone", inNeed(6, 7, 7, 7, 7, 7, 7, 7, 7, 7, 6, 80).needs(0), 2048);
        CHECK.due("needs() of twelve, the last not", inNeed(7, 7, 7, 7, 7, 7, 7, 7, 8, 8, 8, 6).needs(0), 2047);
        CHECK.due("needs() of twelve that are not enough", inNeed(6, 6, 6, 6, 6, 6, 6, 7, 7, 7, 8, 8).needs(0), 0);
    }

    /** "the nearest PLACE outside its RING": one more than the ring, ring by ring, ARMED or not. */
    private static void safeFromBesideTheRing() {
        int[] kinds = {1, 0, 3};
        for (int kind : kinds) {
            for (int level = 1; level <= 30; level++) {
                Stuntledger x = Stage.crew();
                x.gag(kind, 0, 50, level);
                CHECK.due("safeFrom() of a RING of " + x.ofGag(0, 5), x.safeFrom(0), x.ofGag(0, 5) + 1);
            }
        }
        Stuntledger y = Stage.armed(0, 5);
        CHECK.due("safeFrom() of what is ARMED", y.safeFrom(0), 4);
        y.down(0);
        CHECK.due("safeFrom() of what is not", y.safeFrom(0), 4);
        y.walk(1, 54);
        y.walk(1, 46);
        CHECK.due("safeFrom() with somebody beside it", y.safeFrom(0), 4);
    }

    /** "(0 to 99)": where one side ends, it is on the other. */
    private static void safeFromTheLastPlaces() {
        for (int place = 0; place <= 99; place++) {
            Stuntledger x = Stage.crew();
            x.gag(1, 0, place, 30);
            CHECK.due("safeFrom() of a RING of 30 at " + place, x.safeFrom(0), 31);
            x.change(0, 0, place, 1);
            CHECK.due("safeFrom() of a RING of 0 at " + place, x.safeFrom(0), 1);
        }
    }

    /** "and outside those of all GAGS that are ARMED": one place beyond, one within. */
    private static void safeFromWhatIsArmed() {
        // Gag 0 at 0 with a ring of 1: place 2 is the first outside. Gag 1's ring of 2 begins there, or one behind.
        for (int place = 4; place <= 6; place++) {
            Stuntledger x = Stage.crew();
            x.walk(0, 50);
            x.walk(1, 20);
            x.gag(0, 0, 0, 2);
            x.gag(0, 0, place, 3);
            CHECK.due("safeFrom() beside what is not ARMED", x.safeFrom(0), 2);
            Stage.prepareAndArm(x, 1);
            CHECK.due("safeFrom() beside what is ARMED at " + place, x.safeFrom(0), place == 4 ? 7 : 2);
            CHECK.due("safeFrom() of what is ARMED at " + place, x.safeFrom(1), 3);
            x.take(1);
            CHECK.due("safeFrom() beside what was TAKEN", x.safeFrom(0), 2);
        }
    }

    /** Four rings that cover 0 to 99, or all but one place: then there is NONE, or that one. */
    private static void safeFromNowhere() {
        for (int open = -1; open <= 1; open++) {
            Stuntledger x = Stage.crew();
            x.walk(0, 99);
            // Fire of level 19 has a ring of 12: 25 places each.
            for (int g = 0; g < 3; g++) {
                x.gag(1, 0, 12 + 25 * g, 19);
                for (int i = 0; i < 2; i++) {
                    int k = x.kit(1, 90, 5);
                    x.inspect(k);
                    x.put(k, g);
                }
                x.walk(1, 12 + 25 * g + 13);
                Stage.prepareAndArm(x, g);
            }
            x.gag(1, 0, 87 + open, 19);
            CHECK.due("ARMED", x.many(7), 7);
            int[] from = {13, -1, 13};
            CHECK.due("safeFrom() of the last at " + (87 + open), x.safeFrom(3), from[open + 1]);
            CHECK.due("safeFrom() of the first", x.safeFrom(0), 63);
        }
    }

    /** Of 22 numbers only LIGHT, the third, is not 0. */
    private static void digestOfANewObject() {
        long d = 58230;
        for (int i = 0; i < 22; i++) {
            d = d * 31 + (i == 2 ? 1 : 0);
        }
        CHECK.due("digest() of a new object", new Stuntledger().digest(), d);
        CHECK.due("digest() of a new object, written out", new Stuntledger().digest(), NEW_DIGEST);
        Stuntledger x = new Stuntledger();
        x.weather(0, false);
        CHECK.due("digest() of all 0, written out", x.digest(), DARK_DIGEST);
    }

    /** "which wraps around as a 64-bit integer": the sum without a bound, and what 64 bits of it are. */
    private static void digestWrapsAround() {
        BigInteger unbounded = BigInteger.valueOf(58230);
        for (int i = 0; i < 22; i++) {
            unbounded = unbounded.multiply(BigInteger.valueOf(31)).add(BigInteger.valueOf(i == 2 ? 1 : 0));
        }
        CHECK.due("it is beyond 64 bits", unbounded.bitLength() > 64, true);
        CHECK.due("digest() of a new object", new Stuntledger().digest(), unbounded.longValue());
        boolean[] seen = new boolean[2];
        for (int day = 0; day <= 60; day++) {
            Stuntledger x = Stage.full();
            for (int i = 0; i < day; i++) {
                x.pass(1);
            }
            CHECK.due("digest() of a full ledger on DAY " + day, x.digest(), unbounded(x).longValue());
            seen[x.digest() < 0 ? 1 : 0] = true;
        }
        CHECK.due("some are above 0, some below", seen[0] && seen[1], true);
    }

    private static BigInteger unbounded(Stuntledger x) {
        BigInteger d = BigInteger.valueOf(58230);
        BigInteger by = BigInteger.valueOf(31);
        for (int what = 0; what < 14; what++) {
            d = d.multiply(by).add(BigInteger.valueOf(x.many(what)));
        }
        for (int p = 0, n = x.many(3); p < n; p++) {
            for (int what = 0; what < 12; what++) {
                d = d.multiply(by).add(BigInteger.valueOf(x.ofPerson(p, what)));
            }
        }
        for (int k = 0, n = x.many(4); k < n; k++) {
            for (int what = 0; what < 6; what++) {
                d = d.multiply(by).add(BigInteger.valueOf(x.ofKit(k, what)));
            }
        }
        for (int g = 0, n = x.many(6); g < n; g++) {
            int[] numbers = new int[18];
            for (int what = 0; what < 14; what++) {
                numbers[what] = x.ofGag(g, what);
            }
            numbers[14] = x.mostLevel(g);
            numbers[15] = x.bestPerformer(g);
            numbers[16] = x.needs(g);
            numbers[17] = x.safeFrom(g);
            for (int v : numbers) {
                d = d.multiply(by).add(BigInteger.valueOf(v));
            }
        }
        for (int kind = 0; kind < 4; kind++) {
            d = d.multiply(by).add(BigInteger.valueOf(x.ofKind(kind, true)));
            d = d.multiply(by).add(BigInteger.valueOf(x.ofKind(kind, false)));
        }
        return d;
    }

    /** Each change of what one may ask changes the checksum. */
    private static void digestKnowsEachNumber() {
        Stuntledger x = Stage.fullAndArmed();
        long[] digests = new long[12];
        digests[0] = x.digest();
        x.skill(3, 2, 4);
        digests[1] = x.digest();
        x.walk(4, 98);
        digests[2] = x.digest();
        x.inspect(11);
        digests[3] = x.digest();
        x.put(11, 4);
        digests[4] = x.digest();
        x.change(4, 3, 97, 30);
        digests[5] = x.digest();
        x.rehearse(4);
        digests[6] = x.digest();
        x.no(5, 4, true);
        digests[7] = x.digest();
        x.down(0);
        digests[8] = x.digest();
        x.weather(0, false);
        digests[9] = x.digest();
        x.weather(1, false);
        digests[10] = x.digest();
        x.pass(1);
        digests[11] = x.digest();
        for (int i = 0; i < digests.length; i++) {
            for (int j = 0; j < i; j++) {
                CHECK.due("digest() " + i + " is that of " + j, digests[i] == digests[j], false);
            }
        }
        CHECK.due("digest() at last", x.digest(), unbounded(x).longValue());
    }

    /** "what would be (nothing is changed)", nor by digest(). */
    private static void wouldBeChangesNothing() {
        Stuntledger x = Stage.fullAndArmed();
        x.change(3, 6, 20, 30);
        x.inspect(3);
        x.inspect(7);
        long before = x.digest();
        double mean = x.meanMargin();
        for (int g = 0; g < 6; g++) {
            x.mostLevel(g);
            x.bestPerformer(g);
            x.needs(g);
            x.safeFrom(g);
            CHECK.due("digest() behind what would be of " + g, x.digest(), before);
        }
        CHECK.due("ARMED", x.many(7), 1);
        CHECK.due("mean MARGIN", x.meanMargin(), mean);
    }
}
