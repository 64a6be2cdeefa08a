/** Promises 18 to 23: what one asks. */
public final class AsksTest {
    private static final Check CHECK = new Check("AsksTest");
    private static final int MIN = Integer.MIN_VALUE;
    private static final int MAX = Integer.MAX_VALUE;

    public static void main(String[] args) {
        ofPerson();
        ringsAround();
        ofKit();
        ofGag();
        guardAndMargin();
        ofKind();
        many();
        meanMargin();
        asksThrow();
        asksChangeNothing();
        CHECK.end();
    }

    private static void all(String call, int[] got, int... want) {
        for (int what = 0; what < want.length; what++) {
            CHECK.due(call + " of " + what, got[what], want[what]);
        }
    }

    private static int[] person(Stuntledger x, int person) {
        int[] got = new int[12];
        for (int what = 0; what < got.length; what++) {
            got[what] = x.ofPerson(person, what);
        }
        return got;
    }

    private static int[] kit(Stuntledger x, int kit) {
        int[] got = new int[6];
        for (int what = 0; what < got.length; what++) {
            got[what] = x.ofKit(kit, what);
        }
        return got;
    }

    private static int[] gag(Stuntledger x, int gag) {
        int[] got = new int[14];
        for (int what = 0; what < got.length; what++) {
            got[what] = x.ofGag(gag, what);
        }
        return got;
    }

    private static int[] many(Stuntledger x) {
        int[] got = new int[14];
        for (int what = 0; what < got.length; what++) {
            got[what] = x.many(what);
        }
        return got;
    }

    private static void ofPerson() {
        Stuntledger x = new Stuntledger();
        x.person(true, false);
        x.person(false, true);
        for (int kind = 0; kind < 4; kind++) {
            x.skill(0, kind, 9 - kind);
        }
        x.walk(0, 51);
        x.walk(1, 60);
        x.gag(0, 0, 50, 5);
        x.gag(0, 1, 50, 5);
        Stage.prepareAndArm(x, 0);
        x.skill(0, 0, 1);
        x.take(0);
        all("ofPerson() of 0", person(x, 0), 1, 8, 7, 6, 1, 0, 51, 17, 1, 100, 1, 2);
        all("ofPerson() of 1", person(x, 1), 0, 0, 0, 0, 0, 1, 60, 0, 0, 20, 0, 0);
    }

    private static void ringsAround() {
        Stuntledger x = Stage.crew();
        x.person(false, false);
        for (int i = 0; i < 6; i++) {
            x.gag(0, i % 3, 40 + 4 * i, 3);
        }
        int[] sets = new int[3];
        for (int place = 38; place <= 62; place++) {
            for (int p = 0; p < 3; p++) {
                x.walk(p, place);
                sets[p] = 0;
                for (int g = 0; g < 6; g++) {
                    boolean isIn = g % 3 != p && place >= 38 + 4 * g && place <= 42 + 4 * g;
                    sets[p] |= isIn ? 1 << g : 0;
                }
                CHECK.due("rings around " + p + " at " + place, x.ofPerson(p, 11), sets[p]);
            }
        }
    }

    private static void ofKit() {
        Stuntledger x = Stage.crew();
        x.kit(2, 33, 4);
        x.kit(3, 90, 1);
        x.gag(3, 0, 50, 3);
        x.gag(3, 0, 50, 3);
        x.pass(4);
        x.put(1, 1);
        x.inspect(1);
        all("ofKit() of 0", kit(x, 0), 2, 33, 4, -1, -1, 0);
        all("ofKit() of 1", kit(x, 1), 3, 90, 1, 4, 1, 1);
        Stage.prepareAndArm(x, 1);
        x.take(1);
        all("ofKit() of 1, used up", kit(x, 1), 3, 90, 0, 4, 1, 0);
        x.inspect(1);
        all("ofKit() of 1, used up and inspected", kit(x, 1), 3, 90, 0, 4, 1, 0);
    }

    private static void ofGag() {
        Stuntledger x = Stage.crew();
        x.person(false, false);
        x.walk(2, 99);
        x.gag(0, 1, 99, 1);
        x.gag(2, 0, 50, 7);
        x.kit(2, 40, 2);
        x.inspect(0);
        x.put(0, 1);
        x.weather(4, true);
        Stage.prepareAndArm(x, 1);
        all("ofGag() of 1", gag(x, 1), 2, 0, 50, 7, 70, 4, 40, 40 + 45 + 20 - 70 - 6, 4, 7, 0, 1, 0, 0);
        x.weather(0, true);
        all("ofGag() of 1 without WIND", gag(x, 1), 2, 0, 50, 7, 42, 2, 40, 40 + 45 + 20 - 42 - 6, 4, 7, 0, 1, 0, 0);
        x.take(1);
        x.no(2, 1, true);
        all("ofGag() of 1, TAKEN", gag(x, 1), 2, 0, 50, 7, 42, 2, 40, 40 + 45 + 20 - 42 - 8, 3, 0, 4, 0, 2, 1);
        all("ofGag() of 0", gag(x, 0), 0, 1, 99, 1, 10, 0, 0, 20 - 10, 0, 0, 0, 0, 3, 0);
        int[] levelSixEnergy = {60, 18, 36, 30};
        int[] levelSevenEnergy = {70, 24, 42, 35};
        for (int kind = 0; kind < 4; kind++) {
            Stuntledger y = Stage.crew();
            y.gag(kind, 0, 0, 6);
            y.gag(kind, 0, 0, 7);
            CHECK.due("ENERGY of KIND " + kind + ", LEVEL 6", y.ofGag(0, 4), levelSixEnergy[kind]);
            CHECK.due("ENERGY of KIND " + kind + ", LEVEL 7", y.ofGag(1, 4), levelSevenEnergy[kind]);
            CHECK.due("RING of KIND " + kind + ", LEVEL 7", y.ofGag(1, 5), levelSevenEnergy[kind] / 15);
            y.weather(9, true);
            CHECK.due("ENERGY in WIND of KIND " + kind, y.ofGag(1, 4), levelSevenEnergy[kind] + (kind == 2 ? 63 : 0));
        }
    }

    private static void guardAndMargin() {
        Stuntledger x = Stage.crew();
        x.gag(1, 0, 50, 8);
        x.gag(1, 0, 50, 8);
        int[][] kindGuardPut = {{1, 10, 0}, {1, 20, 0}, {2, 40, 0}, {1, 80, 1}, {1, 5, -1}, {1, 3, 0}};
        for (int i = 0; i < kindGuardPut.length; i++) {
            x.kit(kindGuardPut[i][0], kindGuardPut[i][1], 1);
            if (kindGuardPut[i][2] >= 0) {
                x.put(i, kindGuardPut[i][2]);
            }
            if (i != 5) {
                x.inspect(i);
            }
        }
        CHECK.due("GUARD of 0", x.ofGag(0, 6), 30);
        CHECK.due("GUARD of 1", x.ofGag(1, 6), 80);
        CHECK.due("MARGIN of 0", x.ofGag(0, 7), 30 + 45 + 20 - 32);
        x.skill(0, 1, 2);
        x.skill(0, 0, 0);
        CHECK.due("MARGIN with less SKILL", x.ofGag(0, 7), 30 + 10 + 20 - 32);
        x.rehearse(1);
        CHECK.due("MARGIN with TIRED of 3", x.ofGag(0, 7), 28 - 1);
        x.inspect(5);
        CHECK.due("GUARD of 0 with one more", x.ofGag(0, 6), 33);
        x.pass(3);
        CHECK.due("GUARD behind 3 DAYS", x.ofGag(0, 6), 0);
    }

    private static void ofKind() {
        Stuntledger x = Stage.crew();
        for (int kind = 0; kind < 4; kind++) {
            x.gag(kind, 1, 50, 30);
            Stage.miss(x, kind, 3 * kind + 2);
        }
        for (int kind = 0; kind < 4; kind++) {
            CHECK.due("MISSES of " + kind, x.ofKind(kind, false), 3 * kind + 2);
            CHECK.due("CARE of " + kind, x.ofKind(kind, true), kind);
        }
        CHECK.due("MISSES ever", x.many(8), 2 + 5 + 8 + 11);
        x.pass(2);
        CHECK.due("CARE of cars, 2 DAYS later", x.ofKind(2, true), 0);
        CHECK.due("CARE of fights, 2 DAYS later", x.ofKind(3, true), 1);
        CHECK.due("MISSES of fights, 2 DAYS later", x.ofKind(3, false), 11);
        for (int wrong : new int[] {-1, 4, MIN, MAX}) {
            CHECK.outside(x, "CARE of no KIND", () -> x.ofKind(wrong, true));
            CHECK.outside(x, "MISSES of no KIND", () -> x.ofKind(wrong, false));
        }
    }

    private static void many() {
        Stuntledger x = Stage.crew();
        x.person(false, false);
        x.walk(2, 99);
        x.pass(2);
        x.weather(3, true);
        x.kit(0, 10, 1);
        x.kit(0, 10, 1);
        x.kit(1, 10, 1);
        x.inspect(0);
        x.inspect(2);
        x.gag(0, 0, 50, 4);
        x.gag(0, 0, 60, 4);
        x.gag(3, 2, 30, 30);
        x.gag(3, 0, 66, 2);
        Stage.miss(x, 2, 4);
        Stage.prepareAndArm(x, 0);
        Stage.prepareAndArm(x, 3);
        Stage.prepareAndArm(x, 1);
        x.down(1);
        x.arm(1);
        all("many()", many(x), 2, 3, 1, 3, 3, 2, 4, 11, 4, 0, 0, 0, 0, 1);
        x.take(3);
        x.skill(0, 0, 0);
        x.take(1);
        all("many() behind two TAKEN", many(x), 2, 3, 1, 3, 3, 2, 4, 0, 4, 1, 1, 2, 60 + 90 + 40, 2);
        x.pass(5);
        x.weather(0, false);
        all("many() 5 DAYS later", many(x), 7, 0, 0, 3, 3, 0, 4, 0, 4, 0, 1, 2, 190, 2);
    }

    private static void meanMargin() {
        Stuntledger x = Stage.armed(0, 5);
        CHECK.due("mean MARGIN of none", x.meanMargin(), 0.0);
        x.take(0);
        CHECK.due("mean MARGIN of one", x.meanMargin(), 9.0);
        x.pass(1);
        Stage.prepareAndArm(x, 0);
        x.skill(0, 0, 7);
        int second = x.take(0);
        CHECK.due("the second", second, 35 + 20 - 50 - 6);
        CHECK.due("mean MARGIN of two", x.meanMargin(), 4.0);
        x.pass(30);
        x.skill(0, 0, 9);
        Stage.prepareAndArm(x, 0);
        x.skill(0, 0, 8);
        CHECK.due("the third", x.take(0), 4);
        CHECK.due("mean MARGIN of three", x.meanMargin(), 4.0);
        x.pass(30);
        x.skill(0, 0, 9);
        Stage.prepareAndArm(x, 0);
        x.skill(0, 0, 0);
        CHECK.due("the fourth", x.take(0), -36);
        CHECK.due("mean MARGIN of four", x.meanMargin(), -6.0);
        Stuntledger y = Stage.armed(0, 5);
        y.take(0);
        for (int i = 0; i < 2; i++) {
            y.pass(30);
            Stage.prepareAndArm(y, 0);
            y.skill(0, 0, 8);
            y.take(0);
            y.skill(0, 0, 9);
        }
        CHECK.due("mean MARGIN of 9, 4 and 4, not cut", y.meanMargin(), 17.0 / 3);
        Stuntledger z = Stage.armed(0, 5);
        z.skill(0, 0, 7);
        z.take(0);
        CHECK.due("mean MARGIN of -1", z.meanMargin(), -1.0);
        z.pass(30);
        z.skill(0, 0, 9);
        Stage.prepareAndArm(z, 0);
        z.skill(0, 0, 8);
        z.take(0);
        CHECK.due("mean MARGIN of -1 and 4", z.meanMargin(), 1.5);
    }

    private static void asksThrow() {
        Stuntledger x = Stage.armed(0, 5);
        x.kit(0, 1, 1);
        for (int wrong : new int[] {-1, 2, 8, MIN, MAX}) {
            CHECK.outside(x, "ofPerson() of nobody", () -> x.ofPerson(wrong, 0));
            CHECK.outside(x, "ofPerson() of nobody and nothing", () -> x.ofPerson(wrong, 12));
        }
        for (int wrong : new int[] {-1, 1, 12, MIN, MAX}) {
            CHECK.outside(x, "ofKit() of no piece", () -> x.ofKit(wrong, 0));
            CHECK.outside(x, "ofKit() of no piece and nothing", () -> x.ofKit(wrong, -1));
        }
        for (int wrong : new int[] {-1, 1, 6, MIN, MAX}) {
            CHECK.outside(x, "ofGag() of no GAG", () -> x.ofGag(wrong, 0));
            CHECK.outside(x, "ofGag() of no GAG and nothing", () -> x.ofGag(wrong, 14));
        }
        for (int wrong : new int[] {-1, 12, MIN, MAX}) {
            CHECK.illegal(x, "ofPerson() of nothing", () -> x.ofPerson(0, wrong));
        }
        for (int wrong : new int[] {-1, 6, MIN, MAX}) {
            CHECK.illegal(x, "ofKit() of nothing", () -> x.ofKit(0, wrong));
        }
        for (int wrong : new int[] {-1, 14, MIN, MAX}) {
            CHECK.illegal(x, "ofGag() of nothing", () -> x.ofGag(0, wrong));
            CHECK.illegal(x, "many() of nothing", () -> x.many(wrong));
        }
    }

    private static void asksChangeNothing() {
        Stuntledger x = Stage.armed(2, 5);
        x.kit(2, 1, 1);
        long before = x.digest();
        person(x, 0);
        kit(x, 0);
        gag(x, 0);
        many(x);
        x.ofKind(2, true);
        x.meanMargin();
        CHECK.due("digest() behind all that one asks", x.digest(), before);
    }
}
