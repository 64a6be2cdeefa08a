/** Promises 24 to 28: what would be, and the checksum. */
public final class WouldBeTest {
    private static final Check CHECK = new Check("WouldBeTest");
    private static final int MIN = Integer.MIN_VALUE;
    private static final int MAX = Integer.MAX_VALUE;

    public static void main(String[] args) {
        mostLevel();
        mostLevelOfNone();
        bestPerformer();
        bestPerformerIsNoMinor();
        bestPerformerIsNotHurt();
        needs();
        needsOnlyFreeFitKit();
        needsTheNextAsWell();
        safeFrom();
        safeFromOthers();
        safeFromNowhere();
        digest();
        digestOfAFullLedger();
        wouldBeThrows();
        CHECK.end();
    }

    private static void mostLevel() {
        // Without wind the margin is 65 less the energy: 6 falls, 11 of fire (60; 12 is 72), 10 cars, 13 fights.
        int[] want = {6, 11, 10, 13};
        for (int kind = 0; kind < 4; kind++) {
            Stuntledger x = Stage.crew();
            x.gag(kind, 0, 50, 1);
            x.gag(kind, 0, 50, 30);
            CHECK.due("mostLevel() of KIND " + kind, x.mostLevel(0), want[kind]);
            CHECK.due("mostLevel() of KIND " + kind + " at LEVEL 30", x.mostLevel(1), want[kind]);
            x.weather(7, true);
            CHECK.due("mostLevel() of KIND " + kind + " in WIND", x.mostLevel(0), kind == 2 ? 5 : want[kind]);
            for (int i = 0; i < 4; i++) {
                x.kit(kind, 90, 1);
                x.inspect(i);
                x.put(i, 0);
            }
            CHECK.due("mostLevel() of KIND " + kind + " with much KIT", x.mostLevel(0), new int[] {30, 29, 30, 30}[kind]);
        }
    }

    private static void mostLevelOfNone() {
        Stuntledger x = new Stuntledger();
        x.person(false, false);
        x.gag(0, 0, 0, 2);
        x.gag(1, 0, 0, 1);
        x.gag(0, 0, 0, 9);
        CHECK.due("mostLevel() with 20", x.mostLevel(0), 2);
        x.rehearse(1);
        CHECK.due("mostLevel() with 19", x.mostLevel(0), 1);
        Stage.miss(x, 2, 3);
        CHECK.due("TIRED", x.ofPerson(0, 7), 12);
        CHECK.due("CARE", x.ofKind(0, true), 1);
        CHECK.due("mostLevel() with 9", x.mostLevel(0), -1);
        CHECK.due("mostLevel() of fire with 14", x.mostLevel(1), 5);
        CHECK.due("LEVEL behind that", x.ofGag(0, 3), 2);
    }

    private static void bestPerformer() {
        Stuntledger x = new Stuntledger();
        for (int i = 0; i < 5; i++) {
            x.person(false, false);
        }
        x.gag(0, 4, 0, 1);
        CHECK.due("bestPerformer() of equals", x.bestPerformer(0), 0);
        x.skill(3, 0, 4);
        x.skill(2, 0, 4);
        x.skill(1, 0, 3);
        x.skill(1, 1, 9);
        CHECK.due("bestPerformer() of two", x.bestPerformer(0), 2);
        x.gag(0, 2, 0, 1);
        x.rehearse(1);
        CHECK.due("bestPerformer() as 2 is TIRED by 3", x.bestPerformer(0), 3);
        x.skill(2, 0, 5);
        CHECK.due("bestPerformer() as 2 is more skilled", x.bestPerformer(0), 2);
        for (int i = 0; i < 3; i++) {
            x.rehearse(1);
        }
        CHECK.due("bestPerformer() as 2 is TIRED by 12", x.bestPerformer(0), 3);
        x.change(0, 0, 0, 30);
        CHECK.due("bestPerformer() with margins below 0", x.bestPerformer(0), 3);
        CHECK.due("PERFORMER behind that", x.ofGag(0, 1), 0);
    }

    private static void bestPerformerIsNoMinor() {
        Stuntledger x = new Stuntledger();
        x.person(true, false);
        x.person(false, false);
        for (int kind = 0; kind < 4; kind++) {
            x.skill(0, kind, 9);
        }
        int[][] kindLevelBest = {{0, 6, 0}, {0, 7, 1}, {1, 1, 1}, {2, 10, 0}, {2, 11, 1}, {3, 12, 0}};
        for (int i = 0; i < kindLevelBest.length; i++) {
            int[] c = kindLevelBest[i];
            x.gag(c[0], i % 2, 0, c[1]);
            CHECK.due("bestPerformer() of KIND " + c[0] + ", LEVEL " + c[1], x.bestPerformer(i), c[2]);
        }
        Stuntledger y = new Stuntledger();
        y.person(true, false);
        y.gag(1, 0, 0, 1);
        CHECK.due("bestPerformer() of MINORS alone", y.bestPerformer(0), -1);
    }

    private static void bestPerformerIsNotHurt() {
        Stuntledger x = Stage.armed(0, 5);
        x.gag(3, 1, 0, 1);
        CHECK.due("bestPerformer()", x.bestPerformer(1), 0);
        x.skill(0, 0, 0);
        x.take(0);
        CHECK.due("bestPerformer() as 0 is HURT", x.bestPerformer(1), 1);
        x.pass(5);
        CHECK.due("bestPerformer() as 0 is well", x.bestPerformer(1), 0);
        Stuntledger y = new Stuntledger();
        y.person(false, false);
        y.person(true, true);
        y.skill(0, 0, 9);
        y.walk(1, 70);
        y.gag(0, 0, 50, 5);
        y.gag(1, 0, 50, 5);
        Stage.prepareAndArm(y, 0);
        y.skill(0, 0, 0);
        y.take(0);
        CHECK.due("bestPerformer() of the HURT and a MINOR", y.bestPerformer(1), -1);
        CHECK.due("bestPerformer() of what a MINOR may", y.bestPerformer(0), 1);
    }

    /** Level 20 of fights: energy 100, and a margin of -80 without skill. */
    private static Stuntledger inNeed(int... guards) {
        Stuntledger x = new Stuntledger();
        x.person(false, false);
        x.gag(3, 0, 50, 20);
        for (int i = 0; i < guards.length; i++) {
            x.kit(3, guards[i], 5);
            x.inspect(i);
        }
        return x;
    }

    private static void needs() {
        CHECK.due("MARGIN", inNeed().ofGag(0, 7), -80);
        CHECK.due("needs() without kit", inNeed().needs(0), 0);
        CHECK.due("needs() with just enough", inNeed(80).needs(0), 1);
        CHECK.due("needs() with too little", inNeed(79).needs(0), 0);
        CHECK.due("needs() with two just enough", inNeed(40, 40).needs(0), 3);
        CHECK.due("needs() with two too little", inNeed(40, 39).needs(0), 0);
        CHECK.due("needs() of the greatest", inNeed(10, 90, 80).needs(0), 2);
        CHECK.due("needs() of the greatest, though a smaller is enough", inNeed(80, 90).needs(0), 2);
        CHECK.due("needs() of equals", inNeed(50, 50, 50, 50).needs(0), 3);
        CHECK.due("needs() of equals behind a greater", inNeed(20, 20, 60, 20).needs(0), 5);
        CHECK.due("needs() of all", inNeed(10, 30, 20, 15, 5).needs(0), 31);
        CHECK.due("needs() of eleven", inNeed(7, 7, 7, 7, 7, 7, 7, 7, 7, 7, 10, 7).needs(0), 1024 + 1023);
        CHECK.due("needs() of twelve", inNeed(7, 7, 7, 7, 7, 7, 7, 7, 7, 7, 7, 7).needs(0), 4095);
        Stuntledger x = inNeed(90);
        x.change(0, 0, 50, 4);
        CHECK.due("needs() of what needs none", x.needs(0), 0);
        x.change(0, 0, 50, 5);
        CHECK.due("needs() of what needs one", x.needs(0), 1);
    }

    private static void needsOnlyFreeFitKit() {
        Stuntledger x = inNeed(90, 89, 88, 87);
        x.gag(3, 0, 0, 1);
        CHECK.due("needs()", x.needs(0), 1);
        x.put(0, 1);
        CHECK.due("needs() as 0 is put to another", x.needs(0), 2);
        x.kit(2, 90, 5);
        x.inspect(4);
        x.kit(3, 90, 5);
        CHECK.due("needs() with what is of another KIND, or not FIT", x.needs(0), 2);
        x.inspect(5);
        CHECK.due("needs() as 5 is FIT", x.needs(0), 32);
        x.pass(3);
        CHECK.due("needs() as nothing is FIT", x.needs(0), 0);
        x.inspect(3);
        CHECK.due("needs() as 3 is FIT", x.needs(0), 8);
        x.put(3, 0);
        CHECK.due("needs() as 3 is put to it", x.needs(0), 0);
        CHECK.due("MARGIN", x.ofGag(0, 7), 7);
    }

    private static void needsTheNextAsWell() {
        Stuntledger x = inNeed(30, 50, 60, 10);
        CHECK.due("needs()", x.needs(0), 6);
        x.put(2, 0);
        CHECK.due("needs() of 20 more", x.needs(0), 2);
        CHECK.due("where 1 is put behind that", x.ofKit(1, 4), -1);
    }

    private static void safeFrom() {
        int[][] placeLevelAway = {{50, 5, 4}, {0, 5, 4}, {99, 5, 4}, {50, 30, 21}, {50, 1, 1}, {20, 30, 21}, {79, 30, 21}};
        for (int[] c : placeLevelAway) {
            Stuntledger x = Stage.crew();
            x.gag(0, 0, c[0], c[1]);
            CHECK.due("safeFrom() at " + c[0] + ", LEVEL " + c[1], x.safeFrom(0), c[2]);
        }
    }

    private static void safeFromOthers() {
        Stuntledger x = Stage.crew();
        x.walk(1, 40);
        x.gag(0, 0, 50, 5);
        x.gag(0, 0, 57, 5);
        x.gag(0, 0, 55, 3);
        CHECK.due("safeFrom() beside what is not ARMED", x.safeFrom(0), 4);
        Stage.prepareAndArm(x, 1);
        CHECK.due("safeFrom() beside one that is ARMED", x.safeFrom(0), 4);
        CHECK.due("safeFrom() of the ARMED one", x.safeFrom(1), 4);
        CHECK.due("safeFrom() amid the ARMED one, below", x.safeFrom(2), 3);
        x.change(0, 0, 50, 4);
        Stage.prepareAndArm(x, 0);
        CHECK.due("safeFrom() amid two", x.safeFrom(2), 6);
        CHECK.due("safeFrom() of the lower", x.safeFrom(0), 3);
        x.down(1);
        CHECK.due("safeFrom() behind down()", x.safeFrom(2), 3);
        Stuntledger y = Stage.crew();
        y.gag(0, 0, 99, 5);
        y.gag(0, 0, 0, 3);
        y.gag(0, 0, 4, 3);
        y.walk(1, 10);
        Stage.prepareAndArm(y, 2);
        CHECK.due("safeFrom() at the edge", y.safeFrom(1), 7);
        CHECK.due("safeFrom() at the other edge", y.safeFrom(0), 4);
    }

    /** A gag with two pieces of kit that are fit, armed with the medic right above its ring. */
    private static void armBeside(Stuntledger x, int kind, int place, int level) {
        int g = x.gag(kind, 0, place, level);
        for (int i = 0; i < 2; i++) {
            int k = x.kit(kind, 90, 5);
            x.inspect(k);
            x.put(k, g);
        }
        x.walk(1, place + x.ofGag(g, 5) + 1);
        Stage.prepareAndArm(x, g);
    }

    /** Fires of level 19 have rings of 12: those at 12, 37 and 62 cover 0 to 74. */
    private static void safeFromNowhere() {
        Stuntledger x = Stage.crew();
        x.walk(0, 99);
        armBeside(x, 1, 12, 19);
        armBeside(x, 1, 37, 19);
        armBeside(x, 1, 62, 19);
        x.gag(1, 0, 87, 19);
        CHECK.due("RING", x.ofGag(3, 5), 12);
        CHECK.due("ARMED", x.many(7), 7);
        CHECK.due("safeFrom() with no PLACE outside", x.safeFrom(3), -1);
        CHECK.due("safeFrom() of the lowest", x.safeFrom(0), 63);
        CHECK.due("safeFrom() of the next", x.safeFrom(1), 38);
        x.change(3, 0, 87, 18);
        CHECK.due("safeFrom() with a RING of 10", x.safeFrom(3), 11);
        x.change(3, 0, 86, 19);
        CHECK.due("safeFrom() with 99 outside", x.safeFrom(3), 13);
        x.change(3, 0, 87, 19);
        x.down(1);
        CHECK.due("safeFrom() with 25 to 49 outside", x.safeFrom(3), 38);

        Stuntledger y = Stage.crew();
        y.walk(0, 99);
        armBeside(y, 1, 13, 19);
        armBeside(y, 1, 38, 19);
        armBeside(y, 1, 63, 19);
        armBeside(y, 2, 87, 28);
        y.gag(0, 0, 0, 1);
        CHECK.due("safeFrom() with 99 alone outside", y.safeFrom(4), 99);
        y.change(4, 0, 50, 1);
        CHECK.due("safeFrom() from 50, with 0 and 99 outside", y.safeFrom(4), 49);
        y.change(4, 0, 49, 1);
        CHECK.due("safeFrom() from 49, with 0 and 99 outside", y.safeFrom(4), 49);
        y.change(4, 0, 1, 1);
        CHECK.due("safeFrom() from 1, with 0 and 99 outside", y.safeFrom(4), 1);
    }

    private static long mix(long d, long v) {
        return d * 31 + v;
    }

    private static long digestByAsking(Stuntledger x) {
        long d = 58230;
        for (int what = 0; what < 14; what++) {
            d = mix(d, x.many(what));
        }
        for (int p = 0, n = x.many(3); p < n; p++) {
            for (int what = 0; what < 12; what++) {
                d = mix(d, x.ofPerson(p, what));
            }
        }
        for (int k = 0, n = x.many(4); k < n; k++) {
            for (int what = 0; what < 6; what++) {
                d = mix(d, x.ofKit(k, what));
            }
        }
        for (int g = 0, n = x.many(6); g < n; g++) {
            for (int what = 0; what < 14; what++) {
                d = mix(d, x.ofGag(g, what));
            }
            d = mix(d, x.mostLevel(g));
            d = mix(d, x.bestPerformer(g));
            d = mix(d, x.needs(g));
            d = mix(d, x.safeFrom(g));
        }
        for (int kind = 0; kind < 4; kind++) {
            d = mix(d, x.ofKind(kind, true));
            d = mix(d, x.ofKind(kind, false));
        }
        return d;
    }

    private static void digest() {
        Stuntledger x = Stage.crew();
        CHECK.due("digest() without GAGS", x.digest(), digestByAsking(x));
        x.gag(0, 0, 50, 4);
        x.gag(0, 1, 90, 30);
        x.kit(0, 90, 2);
        x.inspect(0);
        CHECK.due("digest() with two GAGS", x.digest(), digestByAsking(x));
        Stage.miss(x, 1, 4);
        long asked = digestByAsking(x);
        CHECK.due("digest() with MISSES", x.digest(), asked);
        CHECK.due("digest() again", x.digest(), asked);
        Stage.prepareAndArm(x, 0);
        CHECK.due("digest() with what is ARMED", x.digest(), digestByAsking(x));
        x.take(0);
        CHECK.due("digest() behind take()", x.digest(), digestByAsking(x));
    }

    private static void digestOfAFullLedger() {
        Stuntledger x = new Stuntledger();
        for (int i = 0; i < 8; i++) {
            x.person(i % 3 == 0, i % 2 == 0);
            x.skill(i, i % 4, 9 - i);
            x.walk(i, 12 * i);
        }
        for (int i = 0; i < 6; i++) {
            x.gag(i % 4, i, 99 - 15 * i, 5 * i + 1);
        }
        for (int i = 0; i < 12; i++) {
            x.kit(i % 4, 7 * i + 1, 1 + i % 5);
            if (i % 3 != 0) {
                x.inspect(i);
            }
            if (i % 4 == 1) {
                x.put(i, i % 6);
            }
        }
        x.weather(3, false);
        x.no(7, 5, true);
        x.rehearse(0);
        CHECK.due("digest() of a full ledger", x.digest(), digestByAsking(x));
    }

    private static void wouldBeThrows() {
        Stuntledger x = Stage.armed(0, 5);
        for (int wrong : new int[] {-1, 1, 6, MIN, MAX}) {
            CHECK.outside(x, "mostLevel() of no GAG", () -> x.mostLevel(wrong));
            CHECK.outside(x, "bestPerformer() of no GAG", () -> x.bestPerformer(wrong));
            CHECK.outside(x, "needs() of no GAG", () -> x.needs(wrong));
            CHECK.outside(x, "safeFrom() of no GAG", () -> x.safeFrom(wrong));
        }
    }
}
