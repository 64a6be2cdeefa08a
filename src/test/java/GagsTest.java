/** Promises 8 to 12: gags are told, changed, rehearsed, signed and refused. */
public final class GagsTest {
    private static final Check CHECK = new Check("GagsTest");
    private static final int MIN = Integer.MIN_VALUE;
    private static final int MAX = Integer.MAX_VALUE;

    public static void main(String[] args) {
        gag();
        gagThrows();
        change();
        changeStandsDown();
        changeThrows();
        rehearse();
        rehearseAtTheEdge();
        rehearseMisses();
        rehearseThirdMiss();
        rehearseThrows();
        sign();
        no();
        CHECK.end();
    }

    private static void gag() {
        Stuntledger x = new Stuntledger();
        x.person(false, false);
        x.person(false, false);
        int[] energies = {300, 450, 180, 150, 10, 0};
        for (int i = 0; i < 6; i++) {
            int kind = i < 4 ? i : i - 4;
            int level = i < 4 ? 30 : 1;
            CHECK.due("gag()", x.gag(kind, 1, i < 4 ? 99 : 0, level), i);
            int[] want = {
                kind, 1, i < 4 ? 99 : 0, level, energies[i], energies[i] / 15, 0, 20 - energies[i],
                0, 0, 0, 0, 3, 0
            };
            for (int what = 0; what <= 13; what++) {
                CHECK.due("ofGag(" + i + ", " + what + ") of a new one", x.ofGag(i, what), want[what]);
            }
        }
        CHECK.due("many(6)", x.many(6), 6);
        CHECK.state(x, "gag() with 6", () -> x.gag(0, 0, 0, 1));
        CHECK.illegal(x, "gag() with 6, and a wrong LEVEL", () -> x.gag(0, 0, 0, 0));
        CHECK.outside(x, "gag() with 6, and a wrong KIND", () -> x.gag(4, 0, 0, 1));
    }

    private static void gagThrows() {
        Stuntledger x = new Stuntledger();
        CHECK.outside(x, "gag() without people", () -> x.gag(0, 0, 0, 1));
        x.person(false, false);
        for (int wrong : new int[] {-1, 4, MIN, MAX}) {
            CHECK.outside(x, "gag() of a wrong KIND", () -> x.gag(wrong, 0, 0, 1));
            CHECK.outside(x, "gag() of a wrong KIND, at no PLACE", () -> x.gag(wrong, 0, -1, 1));
        }
        for (int wrong : new int[] {-1, 1, 8, MIN, MAX}) {
            CHECK.outside(x, "gag() of nobody", () -> x.gag(0, wrong, 0, 1));
            CHECK.outside(x, "gag() of nobody, of no LEVEL", () -> x.gag(0, wrong, 0, 31));
        }
        for (int wrong : new int[] {-1, 100, MIN, MAX}) {
            CHECK.illegal(x, "gag() at no PLACE", () -> x.gag(0, 0, wrong, 1));
        }
        for (int wrong : new int[] {-1, 0, 31, MIN, MAX}) {
            CHECK.illegal(x, "gag() of no LEVEL", () -> x.gag(0, 0, 0, wrong));
        }
        CHECK.due("many(6)", x.many(6), 0);
    }

    private static void change() {
        Stuntledger x = Stage.ready(0, 4);
        CHECK.due("change() of what has 3", x.change(0, 1, 7, 2), 3);
        CHECK.due("PERFORMER", x.ofGag(0, 1), 1);
        CHECK.due("PLACE", x.ofGag(0, 2), 7);
        CHECK.due("LEVEL", x.ofGag(0, 3), 2);
        CHECK.due("ENERGY", x.ofGag(0, 4), 20);
        CHECK.due("STEP", x.ofGag(0, 8), 2);
        CHECK.due("SIGNATURES", x.ofGag(0, 9), 0);
        CHECK.due("change() again", x.change(0, 0, 50, 4), 0);
        CHECK.due("STEP", x.ofGag(0, 8), 2);
        x.rehearse(0);
        x.rehearse(0);
        x.sign(0, 2);
        x.no(1, 0, true);
        CHECK.due("change() to the same, of what has 1", x.change(0, 0, 50, 4), 1);
        CHECK.due("STEP behind that", x.ofGag(0, 8), 2);
        CHECK.due("who says NO behind that", x.ofGag(0, 10), 2);
        x.rehearse(0);
        CHECK.due("change() at STEP 3", x.change(0, 0, 99, 30), 0);
        CHECK.due("STEP behind that", x.ofGag(0, 8), 2);
        x.gag(0, 0, 50, 1);
        x.rehearse(1);
        x.change(1, 0, 0, 1);
        CHECK.due("STEP 1 behind change()", x.ofGag(1, 8), 1);
        CHECK.due("PLACE behind change()", x.ofGag(1, 2), 0);
    }

    private static void changeStandsDown() {
        Stuntledger x = Stage.armed(0, 4);
        CHECK.due("change() of what is ARMED, to the same", x.change(0, 0, 50, 4), 3);
        CHECK.due("ARMED behind that", x.many(7), 0);
        CHECK.due("stood DOWN behind that", x.many(13), 1);
        CHECK.due("change() of what is not ARMED", x.change(0, 0, 50, 4), 0);
        CHECK.due("stood DOWN behind that", x.many(13), 1);
        CHECK.due("MISSES behind that", x.many(8), 0);
    }

    private static void changeThrows() {
        Stuntledger x = Stage.armed(0, 4);
        for (int wrong : new int[] {-1, 1, 6, MIN, MAX}) {
            CHECK.outside(x, "change() of no GAG", () -> x.change(wrong, 0, 0, 1));
            CHECK.outside(x, "change() of no GAG, to no PLACE", () -> x.change(wrong, 0, 100, 1));
        }
        for (int wrong : new int[] {-1, 2, 8, MIN, MAX}) {
            CHECK.outside(x, "change() to nobody", () -> x.change(0, wrong, 0, 1));
            CHECK.outside(x, "change() to nobody, and no LEVEL", () -> x.change(0, wrong, 0, 0));
        }
        for (int wrong : new int[] {-1, 100, MIN, MAX}) {
            CHECK.illegal(x, "change() to no PLACE", () -> x.change(0, 0, wrong, 1));
        }
        for (int wrong : new int[] {-1, 0, 31, MIN, MAX}) {
            CHECK.illegal(x, "change() to no LEVEL", () -> x.change(0, 0, 0, wrong));
        }
        CHECK.due("ARMED behind all that", x.many(7), 1);
    }

    private static void rehearse() {
        Stuntledger x = Stage.crew();
        x.gag(3, 0, 50, 5);
        int[] steps = {1, 2, 3, 4, 4, 4};
        for (int i = 0; i < steps.length; i++) {
            CHECK.due("rehearse() " + (i + 1), x.rehearse(0), steps[i]);
            CHECK.due("STEP", x.ofGag(0, 8), steps[i]);
            CHECK.due("TIRED", x.ofPerson(0, 7), 3 * (i + 1));
        }
        CHECK.due("TIRED of the other", x.ofPerson(1, 7), 0);
        x.sign(0, 0);
        CHECK.due("rehearse() of what is signed", x.rehearse(0), 4);
        CHECK.due("SIGNATURES behind that", x.ofGag(0, 9), 1);
        CHECK.due("MISSES", x.many(8), 0);
        for (int i = 0; i < 40; i++) {
            x.rehearse(0);
        }
        CHECK.due("TIRED at the most", x.ofPerson(0, 7), 100);
    }

    /** Without skill, guard and tiredness, a part's energy of 20 is passed, and 21 is not. */
    private static void rehearseAtTheEdge() {
        int[][] kindWindLevelStep = {
            {0, 0, 8, 1}, {0, 0, 9, 0}, {2, 3, 9, 1}, {2, 6, 7, 0}, {3, 0, 16, 1}, {3, 0, 17, 0},
            {1, 0, 12, 1}, {1, 0, 13, 0}
        };
        for (int[] c : kindWindLevelStep) {
            Stuntledger x = new Stuntledger();
            x.person(false, false);
            x.weather(c[1], true);
            x.gag(c[0], 0, 50, c[2]);
            String call = "rehearse() of KIND " + c[0] + ", WIND " + c[1] + ", LEVEL " + c[2];
            CHECK.due(call, x.rehearse(0), c[3]);
            CHECK.due("MISSES behind " + call, x.ofKind(c[0], false), 1 - c[3]);
            CHECK.due("TIRED behind " + call, x.ofPerson(0, 7), 3);
        }
        // The parts are 20, 40, 60 and 80 of 80; the margin without energy is 20 and 5 times the skill, less TIRED / 2.
        Stuntledger y = new Stuntledger();
        y.person(false, false);
        y.gag(0, 0, 50, 8);
        CHECK.due("part 1", y.rehearse(0), 1);
        y.skill(0, 0, 5);
        CHECK.due("part 2 with 44", y.rehearse(0), 2);
        y.skill(0, 0, 9);
        CHECK.due("part 3 with 62", y.rehearse(0), 3);
        CHECK.due("part 4 with 61", y.rehearse(0), 0);
        CHECK.due("MISSES", y.ofKind(0, false), 1);
    }

    private static void rehearseMisses() {
        Stuntledger x = Stage.ready(0, 5);
        x.skill(0, 0, 0);
        CHECK.due("rehearse() of what is signed, without SKILL", x.rehearse(0), 0);
        CHECK.due("SIGNATURES behind that", x.ofGag(0, 9), 0);
        CHECK.due("MISSES of falls behind that", x.ofKind(0, false), 1);
        CHECK.due("MISSES of cars behind that", x.ofKind(2, false), 0);
        CHECK.due("CARE behind that", x.ofKind(0, true), 0);
        CHECK.due("TIRED behind that", x.ofPerson(0, 7), 15);
        CHECK.due("stood DOWN behind that", x.many(13), 0);
    }

    private static void rehearseThirdMiss() {
        Stuntledger x = Stage.armed(0, 4);
        x.person(false, false);
        x.walk(2, 99);
        x.skill(2, 0, 9);
        x.skill(2, 3, 9);
        x.gag(0, 2, 90, 4);
        x.gag(3, 2, 90, 4);
        x.gag(0, 1, 10, 30);
        Stage.prepare(x, 1);
        Stage.prepare(x, 2);
        Stage.miss(x, 3, 2);
        CHECK.due("ARMED behind two MISSES", x.many(7), 1);
        CHECK.due("CARE behind two MISSES", x.ofKind(0, true), 0);
        CHECK.due("rehearse() that is the third MISS", x.rehearse(3), 0);
        CHECK.due("CARE behind the third", x.ofKind(0, true), 1);
        CHECK.due("CARE of fights behind the third", x.ofKind(3, true), 0);
        CHECK.due("ARMED behind the third", x.many(7), 0);
        CHECK.due("stood DOWN behind the third", x.many(13), 1);
        CHECK.due("SIGNATURES of falls behind the third", x.ofGag(0, 9) + x.ofGag(1, 9), 0);
        CHECK.due("SIGNATURES of fights behind the third", x.ofGag(2, 9), 7);
        CHECK.due("STEPS behind the third", x.ofGag(0, 8) + 10 * x.ofGag(1, 8), 44);
        CHECK.due("MARGIN with CARE", x.ofGag(0, 7), 45 + 20 - 40 - 6 - 5);
        Stage.miss(x, 3, 2);
        CHECK.due("CARE behind five", x.ofKind(0, true), 1);
        Stage.miss(x, 3, 1);
        CHECK.due("CARE behind six", x.ofKind(0, true), 2);
        x.pass(1);
        Stage.miss(x, 3, 3);
        CHECK.due("CARE behind nine, a DAY later", x.ofKind(0, true), 2);
        CHECK.due("MISSES ever", x.ofKind(0, false), 9);
    }

    private static void rehearseThrows() {
        Stuntledger x = Stage.armed(0, 5);
        CHECK.state(x, "rehearse() of what is ARMED", () -> x.rehearse(0));
        for (int wrong : new int[] {-1, 1, 6, MIN, MAX}) {
            CHECK.outside(x, "rehearse() of no GAG", () -> x.rehearse(wrong));
        }
        x.gag(3, 0, 90, 1);
        x.skill(0, 0, 0);
        x.take(0);
        CHECK.state(x, "rehearse() of the HURT", () -> x.rehearse(0));
        CHECK.state(x, "rehearse() of the HURT, of another GAG", () -> x.rehearse(1));
        x.pass(5);
        CHECK.due("rehearse() behind that", x.rehearse(1), 1);
    }

    private static void sign() {
        Stuntledger x = Stage.crew();
        x.gag(0, 0, 50, 4);
        for (int step = 0; step < 4; step++) {
            CHECK.state(x, "sign() at STEP " + step, () -> x.sign(0, 1));
            x.rehearse(0);
        }
        CHECK.due("sign(0, 2)", x.sign(0, 2), 1);
        CHECK.due("SIGNERS", x.ofGag(0, 9), 4);
        CHECK.state(x, "sign(0, 2) again", () -> x.sign(0, 2));
        CHECK.due("sign(0, 0)", x.sign(0, 0), 2);
        CHECK.due("SIGNERS", x.ofGag(0, 9), 5);
        CHECK.due("sign(0, 1)", x.sign(0, 1), 3);
        CHECK.due("SIGNERS", x.ofGag(0, 9), 7);
        for (int signer = 0; signer < 3; signer++) {
            int again = signer;
            CHECK.state(x, "sign() again", () -> x.sign(0, again));
        }
        for (int wrong : new int[] {-1, 3, 32, MIN, MAX}) {
            CHECK.outside(x, "sign() of no SIGNER", () -> x.sign(0, wrong));
        }
        for (int wrong : new int[] {-1, 1, 6, MIN, MAX}) {
            CHECK.outside(x, "sign() of no GAG", () -> x.sign(wrong, 0));
        }
        x.gag(0, 0, 50, 4);
        CHECK.outside(x, "sign() of no SIGNER at STEP 0", () -> x.sign(1, 3));
        x.arm(0);
        CHECK.state(x, "sign() of what is ARMED", () -> x.sign(0, 0));
    }

    private static void no() {
        Stuntledger x = Stage.armed(0, 4);
        CHECK.due("no(1, 0, false)", x.no(1, 0, false), false);
        CHECK.due("ARMED behind that", x.many(7), 1);
        CHECK.due("no(1, 0, true)", x.no(1, 0, true), true);
        CHECK.due("ARMED behind that", x.many(7), 0);
        CHECK.due("stood DOWN behind that", x.many(13), 1);
        CHECK.due("SIGNATURES behind that", x.ofGag(0, 9), 7);
        CHECK.due("STEP behind that", x.ofGag(0, 8), 4);
        CHECK.due("no(1, 0, true) again", x.no(1, 0, true), false);
        CHECK.due("no(0, 0, true) of the PERFORMER", x.no(0, 0, true), false);
        CHECK.due("who says NO", x.ofGag(0, 10), 3);
        CHECK.due("no(1, 0, false)", x.no(1, 0, false), false);
        CHECK.due("who says NO", x.ofGag(0, 10), 1);
        CHECK.due("arm()", x.arm(0), 2);
        x.no(0, 0, false);
        CHECK.due("arm()", x.arm(0), 0);
        CHECK.due("stood DOWN behind all that", x.many(13), 1);
        x.gag(0, 0, 50, 4);
        CHECK.due("no(1, 1, true)", x.no(1, 1, true), false);
        CHECK.due("ARMED behind a NO to another", x.many(7), 1);
        CHECK.due("who says NO to the other", x.ofGag(0, 10), 0);
        CHECK.due("no(0, 0, true) of the PERFORMER", x.no(0, 0, true), true);
        for (int wrong : new int[] {-1, 2, 8, MIN, MAX}) {
            CHECK.outside(x, "no() of nobody", () -> x.no(wrong, 0, true) ? 1 : 0);
        }
        for (int wrong : new int[] {-1, 2, 6, MIN, MAX}) {
            CHECK.outside(x, "no() to no GAG", () -> x.no(0, wrong, false) ? 1 : 0);
        }
    }
}
