/** The edges that "== 2. Gags" names, a sentence at a time. Arguments: see ArgumentsTest. */
public final class GagsEdgesTest {
    private static final Check CHECK = new Check("GagsEdgesTest");

    public static void main(String[] args) {
        noGags();
        sixGags();
        energyOfTheLeastAndTheGreatestLevel();
        energyOfFireIsHalved();
        energyOfCarsByWind();
        ringOfFifteens();
        guardOfItsKindAlone();
        marginPartByPart();
        careOfNoneAndMore();
        stepsUpToFour();
        partsAtTheirEdges();
        partsAreRoundedDown();
        missLeavesNothing();
        signaturesAtStepFour();
        signatureByEachSigner();
        changedAtEachStep();
        changedByKitAtEachStep();
        changeCountsSignatures();
        noAndBack();
        eachThirdMiss();
        thirdMissOverTheDays();
        thirdMissOverTheGags();
        missesKindByKind();
        CHECK.end();
    }

    private static void noGags() {
        Stuntledger x = Stage.crew();
        CHECK.due("GAGS", x.many(6), 0);
        CHECK.due("ARMED", x.many(7), 0);
        CHECK.due("rings around somebody", x.ofPerson(0, 11), 0);
        CHECK.outside(x, "ofGag(0, 0)", () -> x.ofGag(0, 0));
        CHECK.outside(x, "change(0, 0, 0, 1)", () -> x.change(0, 0, 0, 1));
        CHECK.outside(x, "rehearse(0)", () -> x.rehearse(0));
        CHECK.outside(x, "sign(0, 0)", () -> x.sign(0, 0));
        CHECK.outside(x, "no(0, 0, true)", () -> x.no(0, 0, true) ? 1 : 0);
        CHECK.outside(x, "arm(0)", () -> x.arm(0));
        CHECK.outside(x, "down(0)", () -> x.down(0));
        CHECK.outside(x, "take(0)", () -> x.take(0));
        CHECK.outside(x, "mostLevel(0)", () -> x.mostLevel(0));
        CHECK.outside(x, "bestPerformer(0)", () -> x.bestPerformer(0));
        CHECK.outside(x, "needs(0)", () -> x.needs(0));
        CHECK.outside(x, "safeFrom(0)", () -> x.safeFrom(0));
    }

    /** "GAGS: at most 6". */
    private static void sixGags() {
        Stuntledger x = Stage.crew();
        for (int i = 0; i < 6; i++) {
            int next = i;
            CHECK.outside(x, "ofGag() of the next", () -> x.ofGag(next, 0));
            CHECK.due("gag()", x.gag(0, 0, 50, 1), i);
            CHECK.due("GAGS", x.many(6), i + 1);
        }
        CHECK.state(x, "the seventh gag()", () -> x.gag(0, 0, 50, 1));
        CHECK.state(x, "the seventh gag(), of another KIND", () -> x.gag(3, 1, 99, 30));
        CHECK.outside(x, "ofGag(6, 0)", () -> x.ofGag(6, 0));
        Stage.prepareAndArm(x, 5);
        CHECK.due("ARMED is the last", x.many(7), 32);
        CHECK.due("take() of the last", x.take(5), 45 + 20 - 10 - 6);
    }

    private static int energy(int kind, int level, int wind) {
        Stuntledger x = Stage.crew();
        x.weather(wind, true);
        x.gag(kind, 0, 50, level);
        CHECK.due("RING of KIND " + kind + ", LEVEL " + level, x.ofGag(0, 5), x.ofGag(0, 4) / 15);
        return x.ofGag(0, 4);
    }

    private static void energyOfTheLeastAndTheGreatestLevel() {
        int[] least = {10, 0, 6, 5};
        int[] greatest = {300, 450, 180, 150};
        int[] leastInWind = {10, 0, 15, 5};
        int[] greatestInWind = {300, 450, 450, 150};
        for (int kind = 0; kind < 4; kind++) {
            CHECK.due("ENERGY of KIND " + kind + ", LEVEL 1", energy(kind, 1, 0), least[kind]);
            CHECK.due("ENERGY of KIND " + kind + ", LEVEL 30", energy(kind, 30, 0), greatest[kind]);
            CHECK.due("ENERGY of KIND " + kind + ", LEVEL 1, WIND 9", energy(kind, 1, 9), leastInWind[kind]);
            CHECK.due("ENERGY of KIND " + kind + ", LEVEL 30, WIND 9", energy(kind, 30, 9), greatestInWind[kind]);
        }
    }

    /** "LEVEL times LEVEL, divided by 2 (fire)", rounded down. */
    private static void energyOfFireIsHalved() {
        int[] energies = {0, 2, 4, 8, 12, 18, 24, 32, 40, 50};
        for (int level = 1; level <= 10; level++) {
            CHECK.due("ENERGY of fire, LEVEL " + level, energy(1, level, 0), energies[level - 1]);
        }
        CHECK.due("ENERGY of fire, LEVEL 29", energy(1, 29, 0), 420);
    }

    private static void energyOfCarsByWind() {
        for (int wind = 0; wind <= 9; wind++) {
            CHECK.due("ENERGY of cars, LEVEL 7, WIND " + wind, energy(2, 7, wind), 42 + 7 * wind);
        }
    }

    /** "The RING is ENERGY / 15": 14 is no ring, 15 is one, 29 is one, 30 are two. */
    private static void ringOfFifteens() {
        int[][] kindLevelWindEnergyRing = {
            {1, 1, 0, 0, 0}, {2, 1, 8, 14, 0}, {2, 1, 9, 15, 1}, {3, 3, 0, 15, 1}, {0, 1, 0, 10, 0}, {3, 5, 0, 25, 1},
            {2, 4, 1, 28, 1}, {0, 3, 0, 30, 2}, {3, 6, 0, 30, 2}, {2, 4, 5, 44, 2}, {3, 9, 0, 45, 3}, {2, 11, 8, 154, 10},
            {0, 30, 0, 300, 20}, {1, 30, 0, 450, 30}, {2, 30, 9, 450, 30}, {1, 29, 0, 420, 28}, {2, 29, 9, 435, 29}
        };
        for (int[] c : kindLevelWindEnergyRing) {
            Stuntledger x = Stage.crew();
            x.weather(c[2], true);
            x.gag(c[0], 0, 50, c[1]);
            CHECK.due("ENERGY", x.ofGag(0, 4), c[3]);
            CHECK.due("RING of ENERGY " + c[3], x.ofGag(0, 5), c[4]);
        }
    }

    /** "Its GUARD is that of all FIT KIT of its KIND that is put to it." */
    private static void guardOfItsKindAlone() {
        for (int kind = 0; kind < 4; kind++) {
            Stuntledger x = Stage.crew();
            x.gag(kind, 0, 50, 5);
            x.gag(kind, 0, 50, 5);
            for (int k = 0; k < 4; k++) {
                x.kit(k, 10 + k, 1);
                x.inspect(k);
                CHECK.due("put()", x.put(k, 0), -1);
            }
            CHECK.due("GUARD of KIND " + kind, x.ofGag(0, 6), 10 + kind);
            CHECK.due("GUARD of another GAG of KIND " + kind, x.ofGag(1, 6), 0);
        }
    }

    private static void marginPartByPart() {
        Stuntledger x = new Stuntledger();
        x.person(false, false);
        x.gag(0, 0, 50, 2);
        CHECK.due("MARGIN of ENERGY 20, and nothing else", x.ofGag(0, 7), 0);
        x.change(0, 0, 50, 30);
        CHECK.due("MARGIN of LEVEL 30", x.ofGag(0, 7), -280);
        x.kit(0, 1, 1);
        x.inspect(0);
        x.put(0, 0);
        CHECK.due("MARGIN with the least GUARD", x.ofGag(0, 7), -279);
        x.skill(0, 0, 1);
        CHECK.due("MARGIN with the least SKILL", x.ofGag(0, 7), -274);
        x.skill(0, 0, 9);
        CHECK.due("MARGIN with the greatest SKILL", x.ofGag(0, 7), -234);
        for (int k = 1; k < 12; k++) {
            x.kit(0, 90, 1);
            x.inspect(k);
            x.put(k, 0);
        }
        x.change(0, 0, 50, 1);
        CHECK.due("the greatest MARGIN of all but one piece", x.ofGag(0, 7), 991 + 45 + 20 - 10);
    }

    /** "less 5 times the CARE of its KIND (0 at first, for each KIND)". */
    private static void careOfNoneAndMore() {
        Stuntledger x = Stage.crew();
        for (int kind = 0; kind < 4; kind++) {
            CHECK.due("CARE at first", x.ofKind(kind, true), 0);
            x.gag(kind, 0, 50, 4);
        }
        x.gag(0, 1, 50, 30);
        int[] margins = {25, 57, 41, 45};
        for (int care = 0; care <= 4; care++) {
            CHECK.due("CARE", x.ofKind(0, true), care);
            CHECK.due("MARGIN of falls with CARE " + care, x.ofGag(0, 7), margins[0] - 5 * care);
            for (int kind = 1; kind < 4; kind++) {
                CHECK.due("MARGIN of KIND " + kind + " with CARE of falls", x.ofGag(kind, 7), margins[kind]);
            }
            Stage.miss(x, 4, 3);
        }
    }

    /** "Its STEP is 0 at first", and "STEP is 1 more (4 at most)". */
    private static void stepsUpToFour() {
        for (int kind = 0; kind < 4; kind++) {
            Stuntledger x = Stage.crew();
            x.gag(kind, 0, 50, 1);
            CHECK.due("STEP at first", x.ofGag(0, 8), 0);
            for (int i = 1; i <= 7; i++) {
                CHECK.due("rehearse() " + i, x.rehearse(0), Math.min(4, i));
                CHECK.due("STEP behind rehearse() " + i, x.ofGag(0, 8), Math.min(4, i));
            }
        }
    }

    /** Gag 0 by person 0, at this step, with a margin of just this, but for the energy; nobody is tired. */
    private static Stuntledger atPart(int kind, int level, int step, int withoutEnergy) {
        Stuntledger x = Stage.crew();
        x.gag(kind, 0, 50, level);
        // The great pieces are FIT for the steps ahead alone, the exact one for what comes then.
        x.kit(kind, 90, 5);
        x.kit(kind, 90, 5);
        x.kit(kind, Math.max(1, withoutEnergy - 20), 5);
        for (int k = 0; k < 3; k++) {
            x.put(k, 0);
        }
        x.inspect(0);
        x.inspect(1);
        for (int i = 0; i < step; i++) {
            x.rehearse(0);
        }
        x.pass(3);
        x.skill(0, kind, 0);
        if (withoutEnergy > 20) {
            x.inspect(2);
        }
        CHECK.due("STEP", x.ofGag(0, 8), step);
        CHECK.due("MARGIN without ENERGY", x.ofGag(0, 7) + x.ofGag(0, 4), withoutEnergy);
        CHECK.due("TIRED", x.ofPerson(0, 7), 0);
        return x;
    }

    private static void atItsEdge(int kind, int level, int step, int partOfEnergy) {
        for (int margin = -1; margin <= 1; margin++) {
            Stuntledger x = atPart(kind, level, step, partOfEnergy + margin);
            String call = "rehearse() of KIND " + kind + " at STEP " + step + " with " + margin;
            CHECK.due(call, x.rehearse(0), margin < 0 ? 0 : Math.min(4, step + 1));
            CHECK.due("MISSES behind " + call, x.ofKind(kind, false), margin < 0 ? 1 : 0);
            CHECK.due("TIRED behind " + call, x.ofPerson(0, 7), 3);
        }
    }

    /** "with 0 or more it is passed; otherwise that is a MISS": part by part, and at STEP 4 once more. */
    private static void partsAtTheirEdges() {
        for (int step = 0; step <= 4; step++) {
            atItsEdge(0, 10, step, 25 * Math.min(4, step + 1));
            atItsEdge(2, 16, step, 24 * Math.min(4, step + 1));
        }
    }

    /** "STEP and 1 (4 at most) times ENERGY, divided by 4", rounded down: of 85, of 90, of 98. */
    private static void partsAreRoundedDown() {
        int[] partsOf85 = {21, 42, 63, 85, 85};
        int[] partsOf90 = {22, 45, 67, 90, 90};
        int[] partsOf98 = {24, 49, 73, 98, 98};
        for (int step = 0; step <= 4; step++) {
            atItsEdge(3, 17, step, partsOf85[step]);
            atItsEdge(3, 18, step, partsOf90[step]);
            atItsEdge(1, 14, step, partsOf98[step]);
        }
    }

    /** "STEP is 0, and SIGNATURES are gone", however many there were. */
    private static void missLeavesNothing() {
        for (int signers = 0; signers <= 3; signers++) {
            Stuntledger x = atPart(0, 10, 4, 99);
            for (int signer = 0; signer < signers; signer++) {
                CHECK.due("sign()", x.sign(0, signer), signer + 1);
            }
            CHECK.due("rehearse() with -1", x.rehearse(0), 0);
            CHECK.due("SIGNATURES behind the MISS", x.ofGag(0, 9), 0);
            CHECK.due("MISSES", x.ofKind(0, false), 1);
            CHECK.due("stood DOWN", x.many(13), 0);
            Stuntledger y = atPart(0, 10, 4, 100);
            for (int signer = 0; signer < signers; signer++) {
                y.sign(0, signer);
            }
            CHECK.due("rehearse() with 0", y.rehearse(0), 4);
            CHECK.due("SIGNATURES behind what is passed", y.ofGag(0, 9), (1 << signers) - 1);
        }
    }

    /** "a SIGNER signs one that has the STEP 4": below it is refused, behind take() at STEP 3 too. */
    private static void signaturesAtStepFour() {
        Stuntledger x = Stage.crew();
        x.gag(0, 0, 50, 3);
        for (int step = 0; step < 4; step++) {
            for (int signer = 0; signer < 3; signer++) {
                int who = signer;
                CHECK.state(x, "sign() at STEP " + step, () -> x.sign(0, who));
            }
            CHECK.outside(x, "sign() of no SIGNER at STEP " + step, () -> x.sign(0, 3));
            x.rehearse(0);
        }
        CHECK.due("sign() at STEP 4", x.sign(0, 0), 1);
        x.sign(0, 1);
        x.sign(0, 2);
        Stage.arm(x, 0);
        x.take(0);
        CHECK.due("STEP behind take()", x.ofGag(0, 8), 3);
        CHECK.state(x, "sign() behind take()", () -> x.sign(0, 0));
        CHECK.due("rehearse() behind take()", x.rehearse(0), 4);
        CHECK.due("sign() then", x.sign(0, 2), 1);
        x.change(0, 0, 50, 3);
        CHECK.state(x, "sign() behind change()", () -> x.sign(0, 0));
    }

    /** "SIGNATURES of three SIGNERS (0 to 2)": each once, in any order. */
    private static void signatureByEachSigner() {
        int[][] orders = {{0, 1, 2}, {0, 2, 1}, {1, 0, 2}, {1, 2, 0}, {2, 0, 1}, {2, 1, 0}};
        for (int[] order : orders) {
            Stuntledger x = Stage.crew();
            x.gag(0, 0, 50, 3);
            for (int i = 0; i < 4; i++) {
                x.rehearse(0);
            }
            int set = 0;
            for (int i = 0; i < 3; i++) {
                int signer = order[i];
                CHECK.due("sign(0, " + signer + ")", x.sign(0, signer), i + 1);
                set |= 1 << signer;
                CHECK.due("who has signed", x.ofGag(0, 9), set);
                CHECK.state(x, "sign() again", () -> x.sign(0, signer));
            }
            CHECK.outside(x, "sign() of a fourth", () -> x.sign(0, 3));
        }
    }

    /** "STEP is 2, if it was more" */
    private static void changedAtEachStep() {
        int[] then = {0, 1, 2, 2, 2};
        for (int step = 0; step <= 4; step++) {
            int[][] performerPlaceLevel = {{0, 50, 3}, {1, 50, 3}, {0, 51, 3}, {0, 50, 4}, {1, 0, 30}};
            for (int[] c : performerPlaceLevel) {
                Stuntledger x = Stage.crew();
                x.gag(0, 0, 50, 3);
                for (int i = 0; i < step; i++) {
                    x.rehearse(0);
                }
                CHECK.due("change() without SIGNATURES", x.change(0, c[0], c[1], c[2]), 0);
                CHECK.due("STEP " + step + " behind change()", x.ofGag(0, 8), then[step]);
            }
        }
    }

    /** "or KIT is put to it, or taken away from it" */
    private static void changedByKitAtEachStep() {
        int[] then = {0, 1, 2, 2, 2};
        for (int step = 0; step <= 4; step++) {
            for (int way = 0; way < 3; way++) {
                Stuntledger x = Stage.crew();
                x.gag(0, 0, 50, 3);
                x.gag(0, 0, 50, 3);
                x.kit(0, 10, 1);
                if (way > 0) {
                    x.put(0, 0);
                }
                for (int i = 0; i < step; i++) {
                    x.rehearse(0);
                }
                if (step == 4) {
                    x.sign(0, 1);
                }
                x.put(0, way == 0 ? 0 : way == 1 ? -1 : 1);
                CHECK.due("STEP " + step + " behind put(), way " + way, x.ofGag(0, 8), then[step]);
                CHECK.due("SIGNATURES behind put(), way " + way, x.ofGag(0, 9), 0);
                CHECK.due("STEP of the other", x.ofGag(1, 8), 0);
            }
        }
    }

    /** "Returns how many SIGNATURES are gone by that": of none, one, two and three. */
    private static void changeCountsSignatures() {
        for (int set = 0; set < 8; set++) {
            Stuntledger x = Stage.crew();
            x.gag(0, 0, 50, 3);
            for (int i = 0; i < 4; i++) {
                x.rehearse(0);
            }
            for (int signer = 0; signer < 3; signer++) {
                if ((set & 1 << signer) != 0) {
                    x.sign(0, signer);
                }
            }
            CHECK.due("change() to the same, signed by " + set, x.change(0, 0, 50, 3), Integer.bitCount(set));
            CHECK.due("change() again", x.change(0, 0, 50, 3), 0);
            CHECK.due("SIGNATURES", x.ofGag(0, 9), 0);
        }
    }

    /** "Each of the PEOPLE may say NO to a GAG, and take that back": the first and the last of both. */
    private static void noAndBack() {
        Stuntledger x = Stage.full();
        int[][] personGag = {{0, 0}, {7, 0}, {0, 5}, {7, 5}};
        for (int[] c : personGag) {
            CHECK.due("no() taken back ahead of it", x.no(c[0], c[1], false), false);
            CHECK.due("who says NO ahead of it", x.ofGag(c[1], 10), 0);
            CHECK.due("no()", x.no(c[0], c[1], true), false);
            CHECK.due("who says NO", x.ofGag(c[1], 10), 1 << c[0]);
            CHECK.due("who says NO to the other", x.ofGag(5 - c[1], 10), 0);
            CHECK.due("no() again", x.no(c[0], c[1], true), false);
            CHECK.due("who says NO then", x.ofGag(c[1], 10), 1 << c[0]);
            CHECK.due("no() taken back", x.no(c[0], c[1], false), false);
            CHECK.due("who says NO at last", x.ofGag(c[1], 10), 0);
        }
        for (int p = 0; p < 8; p++) {
            x.no(p, 5, true);
        }
        CHECK.due("all say NO", x.ofGag(5, 10), 255);
    }

    /** "With each third MISS of a KIND (ever) its CARE is 1 more": not with the others. */
    private static void eachThirdMiss() {
        for (int kind = 0; kind < 4; kind++) {
            Stuntledger x = Stage.crew();
            x.gag(kind, 1, 50, 30);
            for (int misses = 0; misses <= 10; misses++) {
                CHECK.due("MISSES", x.ofKind(kind, false), misses);
                CHECK.due("MISSES of all", x.many(8), misses);
                CHECK.due("CARE behind " + misses + " MISSES", x.ofKind(kind, true), misses / 3);
                CHECK.due("CARE of another KIND", x.ofKind((kind + 1) % 4, true), 0);
                Stage.miss(x, 0, 1);
            }
        }
    }

    /** "(ever)": a DAY takes CARE away, but no MISS. */
    private static void thirdMissOverTheDays() {
        Stuntledger x = Stage.crew();
        x.gag(0, 1, 50, 30);
        int[] careBehind = {0, 0, 1, 0, 0, 1, 0, 0, 1};
        for (int miss = 1; miss <= 9; miss++) {
            Stage.miss(x, 0, 1);
            CHECK.due("CARE behind MISS " + miss + ", one a DAY", x.ofKind(0, true), careBehind[miss - 1]);
            x.pass(1);
            CHECK.due("CARE a DAY later", x.ofKind(0, true), 0);
        }
    }

    /** "and all GAGS of that KIND have no SIGNATURES any more": those of any step and place, of no other KIND. */
    private static void thirdMissOverTheGags() {
        Stuntledger x = Stage.crew();
        x.gag(0, 0, 10, 2);
        x.gag(0, 1, 50, 30);
        x.gag(3, 0, 90, 2);
        x.gag(0, 1, 50, 30);
        x.gag(0, 0, 90, 2);
        Stage.prepare(x, 0);
        Stage.prepare(x, 2);
        for (int i = 0; i < 4; i++) {
            x.rehearse(4);
        }
        x.sign(4, 2);
        Stage.miss(x, 1, 1);
        Stage.miss(x, 3, 1);
        CHECK.due("SIGNATURES behind two MISSES", x.ofGag(0, 9) + 10 * x.ofGag(4, 9) + 100 * x.ofGag(2, 9), 747);
        Stage.miss(x, 1, 1);
        CHECK.due("SIGNATURES behind three", x.ofGag(0, 9) + 10 * x.ofGag(4, 9) + 100 * x.ofGag(2, 9), 700);
        CHECK.due("STEPS behind three", x.ofGag(0, 8) + 10 * x.ofGag(4, 8) + 100 * x.ofGag(2, 8), 444);
        CHECK.due("CARE behind three", x.ofKind(0, true), 1);
        x.sign(0, 0);
        Stage.miss(x, 3, 1);
        CHECK.due("SIGNATURES behind four", x.ofGag(0, 9), 1);
    }

    private static void missesKindByKind() {
        Stuntledger x = Stage.crew();
        for (int kind = 0; kind < 4; kind++) {
            x.gag(kind, 1, 50, 30);
            Stage.miss(x, kind, 2);
        }
        for (int kind = 0; kind < 4; kind++) {
            CHECK.due("CARE behind two of each KIND", x.ofKind(kind, true), 0);
        }
        CHECK.due("MISSES of all", x.many(8), 8);
        for (int kind = 3; kind >= 0; kind--) {
            Stage.miss(x, kind, 1);
            for (int other = 0; other < 4; other++) {
                CHECK.due("CARE of " + other + " behind the third of " + kind, x.ofKind(other, true), other >= kind ? 1 : 0);
            }
        }
    }
}
