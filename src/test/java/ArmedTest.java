/** Promises 13 to 15: gags are armed, stood down and taken. */
public final class ArmedTest {
    private static final Check CHECK = new Check("ArmedTest");
    private static final int MIN = Integer.MIN_VALUE;
    private static final int MAX = Integer.MAX_VALUE;

    public static void main(String[] args) {
        armThrows();
        down();
        take();
        takeUsesKit();
        takeHurts();
        takePaysMedics();
        takeTires();
        takeThrows();
        fullLedger();
        CHECK.end();
    }

    private static void bar(Stuntledger x, int gag, String when, int want) {
        CHECK.due("what bars it " + when, x.ofGag(gag, 12), want);
        CHECK.due("arm() " + when, x.arm(gag), want);
        CHECK.due("ARMED behind arm() " + when, x.ofGag(gag, 11), want == 0 ? 1 : 0);
    }

    private static void armThrows() {
        Stuntledger x = Stage.armed(0, 5);
        CHECK.state(x, "arm() of what is ARMED", () -> x.arm(0));
        x.skill(0, 0, 0);
        CHECK.due("what bars what is ARMED", x.ofGag(0, 12), 5);
        CHECK.state(x, "arm() of what is ARMED, and barred", () -> x.arm(0));
        for (int wrong : new int[] {-1, 1, 6, MIN, MAX}) {
            CHECK.outside(x, "arm() of no GAG", () -> x.arm(wrong));
        }
    }

    private static void down() {
        Stuntledger x = Stage.armed(0, 4);
        x.gag(0, 0, 60, 4);
        Stage.prepareAndArm(x, 1);
        CHECK.due("ARMED", x.many(7), 3);
        CHECK.due("down(0)", x.down(0), 1);
        CHECK.due("ARMED", x.many(7), 2);
        CHECK.state(x, "down(0) again", () -> x.down(0));
        CHECK.due("SIGNATURES", x.ofGag(0, 9), 7);
        CHECK.due("STEP", x.ofGag(0, 8), 4);
        CHECK.due("arm(0)", x.arm(0), 0);
        CHECK.due("down(1)", x.down(1), 1);
        CHECK.due("down(0)", x.down(0), 0);
        CHECK.due("stood DOWN ever", x.many(13), 3);
        CHECK.due("TAKEN ever", x.many(11), 0);
        for (int wrong : new int[] {-1, 2, 6, MIN, MAX}) {
            CHECK.outside(x, "down() of no GAG", () -> x.down(wrong));
        }
    }

    private static void take() {
        Stuntledger x = Stage.armed(0, 5);
        CHECK.due("take()", x.take(0), 45 + 20 - 50 - 6);
        CHECK.due("ARMED", x.many(7), 0);
        CHECK.due("stood DOWN ever", x.many(13), 0);
        CHECK.due("SIGNATURES", x.ofGag(0, 9), 0);
        CHECK.due("STEP", x.ofGag(0, 8), 3);
        CHECK.due("how often it was TAKEN", x.ofGag(0, 13), 1);
        CHECK.due("how often 0 TOOK one", x.ofPerson(0, 10), 1);
        CHECK.due("how often 1 TOOK one", x.ofPerson(1, 10), 0);
        CHECK.due("TAKEN ever", x.many(11), 1);
        CHECK.due("PAY of the PERFORMER", x.ofPerson(0, 9), 100);
        CHECK.due("PAY of the MEDIC", x.ofPerson(1, 9), 20);
        CHECK.due("TIRED", x.ofPerson(0, 7), 12 + 5);
        CHECK.due("HURT", x.ofPerson(0, 8), 0);
        CHECK.due("HURT ever", x.many(10), 0);
        CHECK.due("mean MARGIN", x.meanMargin(), 9.0);
        CHECK.due("rehearse() behind that", x.rehearse(0), 4);
        // Cars in wind: all is by the energy that the wind makes.
        Stuntledger y = Stage.armed(2, 3);
        y.weather(6, true);
        CHECK.due("take() in WIND", y.take(0), 45 + 20 - 36 - 6);
        CHECK.due("PAY in WIND", y.ofPerson(0, 9), 86);
        CHECK.due("TIRED in WIND", y.ofPerson(0, 7), 12 + 3);
    }

    /** Only fit kit of its kind that is put to it is used, whether it is needed or not. */
    private static void takeUsesKit() {
        Stuntledger x = Stage.crew();
        x.gag(0, 0, 50, 8);
        x.gag(0, 0, 90, 8);
        int[][] kindUses = {{0, 1}, {0, 5}, {1, 5}, {0, 5}, {0, 5}, {0, 5}};
        for (int[] c : kindUses) {
            x.kit(c[0], 20, c[1]);
        }
        int[] putTo = {0, 0, 0, 0, 1};
        for (int i = 0; i < putTo.length; i++) {
            x.put(i, putTo[i]);
            if (i != 3) {
                x.inspect(i);
            }
        }
        x.inspect(5);
        Stage.prepareAndArm(x, 0);
        CHECK.due("take() with KIT", x.take(0), 40 + 45 + 20 - 80 - 6);
        int[] uses = {0, 4, 5, 5, 5, 5};
        for (int i = 0; i < uses.length; i++) {
            CHECK.due("USES of piece " + i, x.ofKit(i, 2), uses[i]);
        }
        CHECK.due("FIT behind that", x.many(5), 4);
        CHECK.due("GUARD behind that", x.ofGag(0, 6), 20);
        x.pass(1);
        CHECK.due("rehearse() behind that, not CHANGED", x.rehearse(0), 4);
        for (int signer = 0; signer < 3; signer++) {
            x.sign(0, signer);
        }
        Stage.arm(x, 0);
        CHECK.due("take() with what is left", x.take(0), 20 + 45 + 20 - 80 - 1);
        CHECK.due("USES of what was used up", x.ofKit(0, 2), 0);
        CHECK.due("USES of the other", x.ofKit(1, 2), 3);
    }

    private static void takeHurts() {
        Stuntledger x = Stage.armed(0, 5);
        x.gag(0, 0, 60, 3);
        x.gag(0, 1, 80, 1);
        Stage.prepareAndArm(x, 1);
        x.person(false, true);
        x.walk(2, 90);
        Stage.prepareAndArm(x, 2);
        x.skill(0, 0, 1);
        CHECK.due("take() with less than 0", x.take(0), 5 + 20 - 50 - 12);
        CHECK.due("HURT", x.ofPerson(0, 8), 1);
        CHECK.due("PEOPLE that are HURT", x.many(9), 1);
        CHECK.due("HURT ever", x.many(10), 1);
        CHECK.due("ARMED behind that", x.many(7), 4);
        CHECK.due("stood DOWN by that", x.many(13), 1);
        CHECK.due("SIGNATURES of what is stood DOWN", x.ofGag(1, 9), 7);
        CHECK.due("STEPS", x.ofGag(0, 8) + 10 * x.ofGag(1, 8), 43);
        CHECK.due("PAY of the HURT", x.ofPerson(0, 9), 100);
        CHECK.due("TIRED of the HURT", x.ofPerson(0, 7), 24 + 5);
        CHECK.due("arm() of another of the HURT", x.arm(1), 1);
        Stuntledger y = Stage.armed(0, 5);
        y.gag(0, 0, 99, 1);
        for (int i = 0; i < 3; i++) {
            y.rehearse(1);
        }
        y.skill(0, 0, 8);
        CHECK.due("take() with 0", y.take(0), 0);
        CHECK.due("HURT with 0", y.ofPerson(0, 8), 0);
    }

    private static void takePaysMedics() {
        Stuntledger x = new Stuntledger();
        for (int i = 0; i < 8; i++) {
            x.person(false, i != 7);
        }
        int[] places = {50, 24, 25, 75, 76, 60, 40, 60};
        for (int i = 0; i < places.length; i++) {
            x.walk(i, places[i]);
        }
        x.skill(0, 0, 9);
        x.gag(0, 0, 50, 5);
        x.gag(0, 5, 60, 3);
        x.skill(5, 0, 9);
        x.walk(7, 70);
        Stage.prepareAndArm(x, 1);
        x.skill(5, 0, 0);
        CHECK.due("take() that hurts a MEDIC", x.take(1), 20 - 30 - 6);
        CHECK.due("PAY of a PERFORMER who is a MEDIC, and HURT", x.ofPerson(5, 9), 80);
        int[] pays = {20, 0, 0, 20, 20, 80, 20, 0};
        for (int i = 0; i < pays.length; i++) {
            CHECK.due("PAY of " + i + " at 60", x.ofPerson(i, 9), pays[i]);
        }
        Stage.prepareAndArm(x, 0);
        x.take(0);
        int[] more = {120, 0, 20, 20, 0, 0, 20, 0};
        for (int i = 0; i < more.length; i++) {
            CHECK.due("PAY of " + i + " at 60 and 50", x.ofPerson(i, 9), pays[i] + more[i]);
        }
        CHECK.due("all PAY", x.many(12), 160 + 180);
        x.change(0, 0, 20, 2);
        Stage.prepareAndArm(x, 0);
        x.take(0);
        CHECK.due("PAY of a PERFORMER who is a MEDIC far away", x.ofPerson(0, 9), 140 + 70);
    }

    private static void takeTires() {
        int[][] rehearsalsMarginTired = {{27, 65 - 50 - 46, 98}, {28, 65 - 50 - 48, 100}, {40, 65 - 50 - 50, 100}};
        for (int[] c : rehearsalsMarginTired) {
            Stuntledger x = Stage.armed(1, 10);
            x.gag(3, 0, 99, 1);
            for (int i = 0; i < c[0]; i++) {
                x.rehearse(1);
            }
            CHECK.due("take() of the TIRED", x.take(0), c[1]);
            CHECK.due("TIRED behind that", x.ofPerson(0, 7), c[2]);
        }
    }

    private static void takeThrows() {
        Stuntledger x = Stage.ready(0, 5);
        CHECK.state(x, "take() of what is not ARMED", () -> x.take(0));
        for (int wrong : new int[] {-1, 1, 6, MIN, MAX}) {
            CHECK.outside(x, "take() of no GAG", () -> x.take(wrong));
        }
        x.arm(0);
        x.take(0);
        CHECK.state(x, "take() again", () -> x.take(0));
    }

    /** With 8 people, 12 pieces of kit and 6 gags all rows are full. Person 0 is the only medic. */
    private static void fullLedger() {
        Stuntledger x = new Stuntledger();
        for (int i = 0; i < 8; i++) {
            x.person(false, i == 0);
            x.skill(i, 0, 9);
            x.walk(i, 99);
        }
        for (int i = 0; i < 6; i++) {
            x.gag(0, 7 - i % 2, 10 + 8 * i, i == 5 ? 30 : 3);
        }
        for (int i = 0; i < 12; i++) {
            x.kit(0, 1, 2);
            x.inspect(i);
            x.put(i, i / 3);
        }
        for (int g = 0; g < 5; g++) {
            Stage.prepare(x, g);
        }
        bar(x, 4, "in a full ledger without a MEDIC near", 9);
        x.walk(0, 30);
        for (int g = 0; g < 5; g++) {
            bar(x, g, "in a full ledger", 0);
        }
        CHECK.due("ARMED", x.many(7), 31);
        CHECK.due("walk() into the last RING", x.walk(1, 42), 16);
        CHECK.due("what bars it then", x.ofGag(4, 12), 10);
        x.walk(1, 99);
        CHECK.due("arm(4) again", x.arm(4), 0);
        x.skill(7, 0, 0);
        CHECK.due("take() that hurts 7", x.take(0), 3 + 20 - 30 - 36 / 2);
        CHECK.due("USES", x.ofKit(0, 2) + 10 * x.ofKit(2, 2) + 100 * x.ofKit(3, 2), 211);
        CHECK.due("PAY of the MEDIC", x.ofPerson(0, 9), 20);
        CHECK.due("ARMED as 7 is HURT", x.many(7), 8 + 2);
        x.skill(6, 0, 0);
        Stage.miss(x, 5, 2);
        CHECK.due("stood DOWN by the third MISS", x.many(13), 1 + 2 + 2);
        CHECK.due("CARE", x.ofKind(0, true), 1);
        CHECK.due("weather(8, false)", x.weather(8, false), 0);
        CHECK.due("pass(5)", x.pass(5), 5);
        CHECK.due("PEOPLE that are HURT", x.many(9), 0);
    }
}
