/** Promises 1 to 7: a new object, people and kit. */
public final class PeopleAndKitTest {
    private static final Check CHECK = new Check("PeopleAndKitTest");
    private static final int MIN = Integer.MIN_VALUE;
    private static final int MAX = Integer.MAX_VALUE;

    public static void main(String[] args) {
        newObject();
        person();
        personStandsDown();
        skill();
        walk();
        walkIntoRings();
        walkStaysOutside();
        walkWithThirdMiss();
        walkOfPerformers();
        kit();
        inspect();
        put();
        putChanges();
        CHECK.end();
    }

    private static void newObject() {
        Stuntledger x = new Stuntledger();
        long digest = 58230;
        for (int what = 0; what <= 13; what++) {
            CHECK.due("many(" + what + ") of a new object", x.many(what), what == 2 ? 1 : 0);
            digest = digest * 31 + (what == 2 ? 1 : 0);
        }
        for (int kind = 0; kind < 4; kind++) {
            CHECK.due("CARE of a new object", x.ofKind(kind, true), 0);
            CHECK.due("MISSES of a new object", x.ofKind(kind, false), 0);
            digest = digest * 31 * 31;
        }
        CHECK.due("meanMargin() of a new object", x.meanMargin(), 0.0);
        CHECK.due("digest() of a new object", x.digest(), digest);
        CHECK.outside(x, "ofPerson(0, 0)", () -> x.ofPerson(0, 0));
        CHECK.outside(x, "ofKit(0, 0)", () -> x.ofKit(0, 0));
        CHECK.outside(x, "ofGag(0, 0)", () -> x.ofGag(0, 0));
        x.person(true, true);
        x.weather(3, false);
        CHECK.due("digest() of another new object", new Stuntledger().digest(), digest);
    }

    private static void person() {
        Stuntledger x = new Stuntledger();
        for (int i = 0; i < 8; i++) {
            boolean isMinor = i % 2 == 1;
            boolean isMedic = i >= 4;
            CHECK.due("person()", x.person(isMinor, isMedic), i);
            for (int what = 0; what <= 11; what++) {
                int want = what == 4 ? i % 2 : what == 5 ? i / 4 : 0;
                CHECK.due("ofPerson(" + i + ", " + what + ") of a new one", x.ofPerson(i, what), want);
            }
        }
        CHECK.due("many(3)", x.many(3), 8);
        CHECK.state(x, "person() with 8", () -> x.person(false, false));
        CHECK.due("many(3)", x.many(3), 8);
    }

    /** Whoever comes new comes to place 0: that stands down whose ring is there, and is no miss. */
    private static void personStandsDown() {
        Stuntledger x = new Stuntledger();
        x.person(false, false);
        x.person(false, true);
        x.skill(0, 0, 9);
        x.walk(1, 25);
        x.walk(0, 50);
        x.gag(0, 0, 3, 5);
        Stage.prepareAndArm(x, 0);
        CHECK.due("person() in a ring", x.person(false, false), 2);
        CHECK.due("ARMED behind that", x.many(7), 0);
        CHECK.due("stood DOWN behind that", x.many(13), 1);
        CHECK.due("MISSES behind that", x.many(8), 0);
        CHECK.due("SIGNATURES behind that", x.ofGag(0, 9), 7);
        CHECK.due("STEP behind that", x.ofGag(0, 8), 4);
        CHECK.due("rings of the new one", x.ofPerson(2, 11), 1);
        x.walk(2, 99);
        x.change(0, 0, 4, 5);
        Stage.prepareAndArm(x, 0);
        x.person(false, false);
        CHECK.due("ARMED behind a new one outside the RING", x.many(7), 1);
        CHECK.due("stood DOWN behind a new one outside the RING", x.many(13), 1);
    }

    private static void skill() {
        Stuntledger x = new Stuntledger();
        CHECK.outside(x, "skill(0, 0, 0) without people", () -> x.skill(0, 0, 0));
        x.person(false, false);
        x.person(false, false);
        CHECK.due("skill(0, 0, 9)", x.skill(0, 0, 9), 0);
        CHECK.due("skill(0, 0, 4)", x.skill(0, 0, 4), 9);
        CHECK.due("skill(0, 3, 7)", x.skill(0, 3, 7), 0);
        CHECK.due("skill(1, 3, 2)", x.skill(1, 3, 2), 0);
        CHECK.due("skill(0, 0, 0)", x.skill(0, 0, 0), 4);
        CHECK.due("ofPerson(0, 0)", x.ofPerson(0, 0), 0);
        CHECK.due("ofPerson(0, 3)", x.ofPerson(0, 3), 7);
        CHECK.due("ofPerson(1, 3)", x.ofPerson(1, 3), 2);
        for (int wrong : new int[] {-1, 2, 8, MIN, MAX}) {
            CHECK.outside(x, "skill of nobody", () -> x.skill(wrong, 0, 0));
            CHECK.outside(x, "skill of nobody, and a wrong SKILL", () -> x.skill(wrong, 0, 10));
        }
        for (int wrong : new int[] {-1, 4, MIN, MAX}) {
            CHECK.outside(x, "skill of a wrong KIND", () -> x.skill(0, wrong, 0));
            CHECK.outside(x, "skill of a wrong KIND, and a wrong SKILL", () -> x.skill(0, wrong, -1));
        }
        for (int wrong : new int[] {-1, 10, MIN, MAX}) {
            CHECK.illegal(x, "a wrong SKILL", () -> x.skill(0, 0, wrong));
        }
        Stuntledger y = Stage.armed(0, 5);
        CHECK.due("skill() of the PERFORMER of what is ARMED", y.skill(0, 0, 0), 9);
        CHECK.due("ARMED behind that", y.many(7), 1);
        CHECK.due("SIGNATURES behind that", y.ofGag(0, 9), 7);
    }

    private static void walk() {
        Stuntledger x = new Stuntledger();
        CHECK.outside(x, "walk(0, 0) without people", () -> x.walk(0, 0));
        x.person(false, false);
        x.person(false, false);
        CHECK.due("walk(1, 99)", x.walk(1, 99), 0);
        CHECK.due("ofPerson(1, 6)", x.ofPerson(1, 6), 99);
        CHECK.due("ofPerson(0, 6)", x.ofPerson(0, 6), 0);
        CHECK.due("walk(1, 0)", x.walk(1, 0), 0);
        CHECK.due("ofPerson(1, 6)", x.ofPerson(1, 6), 0);
        for (int wrong : new int[] {-1, 2, 8, MIN, MAX}) {
            CHECK.outside(x, "walk of nobody", () -> x.walk(wrong, 0));
            CHECK.outside(x, "walk of nobody, to no PLACE", () -> x.walk(wrong, 100));
        }
        for (int wrong : new int[] {-1, 100, MIN, MAX}) {
            CHECK.illegal(x, "walk to no PLACE", () -> x.walk(0, wrong));
        }
    }

    /** Falls of level 5: energy 50, ring 3, at place 50. */
    private static void walkIntoRings() {
        for (int place : new int[] {47, 50, 53}) {
            Stuntledger x = Stage.armed(0, 5);
            x.person(false, false);
            CHECK.due("walk into the RING, to " + place, x.walk(2, place), 1);
            CHECK.due("ARMED behind that", x.many(7), 0);
            CHECK.due("stood DOWN behind that", x.many(13), 1);
            CHECK.due("MISSES of falls behind that", x.ofKind(0, false), 1);
            CHECK.due("MISSES behind that", x.many(8), 1);
            CHECK.due("STEP behind that", x.ofGag(0, 8), 4);
            CHECK.due("SIGNATURES behind that", x.ofGag(0, 9), 7);
            CHECK.due("walk within the RING of what is not ARMED", x.walk(2, 51), 0);
            CHECK.due("MISSES behind that", x.many(8), 1);
            x.walk(2, 99);
            CHECK.due("arm() again", x.arm(0), 0);
        }
    }

    private static void walkStaysOutside() {
        Stuntledger x = Stage.armed(0, 5);
        x.person(false, false);
        CHECK.due("walk to below the RING", x.walk(2, 46), 0);
        CHECK.due("walk to above the RING", x.walk(2, 54), 0);
        CHECK.due("the only MEDIC walks away", x.walk(1, 0), 0);
        CHECK.due("what bars it then", x.ofGag(0, 12), 9);
        CHECK.due("ARMED behind all that", x.many(7), 1);
        CHECK.due("MISSES behind all that", x.many(8), 0);
    }

    /** Two gags of cars whose rings wind 6 lets grow over one another: person 2 walks into both. */
    private static Stuntledger carsSideBySide(int missesAhead) {
        Stuntledger x = Stage.crew();
        x.person(false, false);
        x.walk(0, 99);
        x.walk(1, 54);
        x.walk(2, 99);
        x.gag(2, 2, 80, 30);
        Stage.miss(x, 0, missesAhead);
        x.gag(2, 0, 32, 5);
        x.gag(2, 0, 38, 5);
        Stage.prepareAndArm(x, 1);
        Stage.prepareAndArm(x, 2);
        CHECK.due("weather(6, true)", x.weather(6, true), 0);
        return x;
    }

    private static void walkWithThirdMiss() {
        Stuntledger x = carsSideBySide(0);
        CHECK.due("walk into two RINGS", x.walk(2, 35), 6);
        CHECK.due("each is a MISS", x.ofKind(2, false), 2);
        CHECK.due("CARE behind two", x.ofKind(2, true), 0);
        CHECK.due("SIGNATURES behind two", x.ofGag(1, 9) + 10 * x.ofGag(2, 9), 77);
        CHECK.due("stood DOWN", x.many(13), 2);

        Stuntledger y = carsSideBySide(2);
        CHECK.due("walk into two RINGS, the first the third MISS", y.walk(2, 35), 6);
        CHECK.due("the other is not ARMED as its turn comes", y.ofKind(2, false), 3);
        CHECK.due("CARE behind the third", y.ofKind(2, true), 1);
        CHECK.due("SIGNATURES behind the third", y.ofGag(1, 9) + 10 * y.ofGag(2, 9), 0);
        CHECK.due("STEPS behind the third", y.ofGag(1, 8) + 10 * y.ofGag(2, 8), 44);
        CHECK.due("stood DOWN", y.many(13), 2);

        Stuntledger z = carsSideBySide(2);
        CHECK.due("walk into the second RING alone, the third MISS", z.walk(2, 42), 6);
        CHECK.due("MISSES then", z.ofKind(2, false), 3);
        CHECK.due("stood DOWN", z.many(13), 2);
    }

    private static void walkOfPerformers() {
        Stuntledger x = Stage.armed(0, 5);
        CHECK.due("walk of the PERFORMER into the own RING", x.walk(0, 51), 0);
        CHECK.due("ARMED behind that", x.many(7), 1);
        x.person(false, false);
        x.skill(2, 0, 9);
        x.gag(0, 2, 60, 4);
        Stage.prepareAndArm(x, 1);
        CHECK.due("walk of a PERFORMER into another RING", x.walk(0, 58), 2);
        CHECK.due("ARMED behind that", x.many(7), 1);
    }

    private static void kit() {
        Stuntledger x = new Stuntledger();
        for (int i = 0; i < 12; i++) {
            int guard = i == 0 ? 1 : i == 1 ? 90 : 10 + i;
            int uses = i == 0 ? 1 : 5;
            CHECK.due("kit()", x.kit(i % 4, guard, uses), i);
            int[] want = {i % 4, guard, uses, -1, -1, 0};
            for (int what = 0; what <= 5; what++) {
                CHECK.due("ofKit(" + i + ", " + what + ") of a new one", x.ofKit(i, what), want[what]);
            }
        }
        CHECK.due("many(4)", x.many(4), 12);
        CHECK.state(x, "kit() with 12", () -> x.kit(0, 1, 1));
        CHECK.illegal(x, "kit() with 12, and a wrong GUARD", () -> x.kit(0, 0, 1));
        CHECK.outside(x, "kit() with 12, and all else wrong", () -> x.kit(4, 0, 0));
        Stuntledger y = new Stuntledger();
        for (int wrong : new int[] {-1, 4, MIN, MAX}) {
            CHECK.outside(y, "kit() of a wrong KIND", () -> y.kit(wrong, 1, 1));
            CHECK.outside(y, "kit() of a wrong KIND and GUARD", () -> y.kit(wrong, 91, 6));
        }
        for (int wrong : new int[] {-1, 0, 91, MIN, MAX}) {
            CHECK.illegal(y, "kit() of a wrong GUARD", () -> y.kit(0, wrong, 1));
        }
        for (int wrong : new int[] {-1, 0, 6, MIN, MAX}) {
            CHECK.illegal(y, "kit() of wrong USES", () -> y.kit(0, 1, wrong));
        }
        CHECK.due("many(4)", y.many(4), 0);
    }

    private static void inspect() {
        Stuntledger x = new Stuntledger();
        CHECK.outside(x, "inspect(0) without kit", () -> x.inspect(0));
        x.kit(0, 10, 1);
        x.kit(0, 10, 1);
        CHECK.due("inspect(0)", x.inspect(0), -1);
        CHECK.due("inspect(0) again", x.inspect(0), 0);
        CHECK.due("ofKit(0, 5)", x.ofKit(0, 5), 1);
        CHECK.due("ofKit(1, 5)", x.ofKit(1, 5), 0);
        x.pass(2);
        CHECK.due("ofKit(0, 5) two DAYS later", x.ofKit(0, 5), 1);
        x.pass(1);
        CHECK.due("ofKit(0, 5) three DAYS later", x.ofKit(0, 5), 0);
        CHECK.due("inspect(0) three DAYS later", x.inspect(0), 0);
        CHECK.due("ofKit(0, 3)", x.ofKit(0, 3), 3);
        CHECK.due("ofKit(0, 5)", x.ofKit(0, 5), 1);
        CHECK.due("inspect(1)", x.inspect(1), -1);
        for (int wrong : new int[] {-1, 2, 12, MIN, MAX}) {
            CHECK.outside(x, "inspect() of no piece", () -> x.inspect(wrong));
        }
        Stuntledger y = Stage.crew();
        y.gag(0, 0, 50, 5);
        y.kit(0, 90, 5);
        y.put(0, 0);
        Stage.prepareAndArm(y, 0);
        y.inspect(0);
        CHECK.due("ARMED behind inspect()", y.many(7), 1);
        CHECK.due("GUARD behind inspect()", y.ofGag(0, 6), 90);
    }

    private static void put() {
        Stuntledger x = new Stuntledger();
        x.person(false, false);
        CHECK.outside(x, "put() of no piece to none", () -> x.put(0, -1));
        x.kit(1, 10, 1);
        CHECK.outside(x, "put() to no GAG", () -> x.put(0, 0));
        CHECK.state(x, "put() of what is put to none to none", () -> x.put(0, -1));
        x.gag(1, 0, 0, 1);
        x.gag(1, 0, 0, 1);
        CHECK.due("put(0, 1)", x.put(0, 1), -1);
        CHECK.due("ofKit(0, 4)", x.ofKit(0, 4), 1);
        CHECK.state(x, "put(0, 1) again", () -> x.put(0, 1));
        CHECK.due("put(0, 0)", x.put(0, 0), 1);
        CHECK.due("ofKit(0, 4)", x.ofKit(0, 4), 0);
        CHECK.due("put(0, -1)", x.put(0, -1), 0);
        CHECK.due("ofKit(0, 4)", x.ofKit(0, 4), -1);
        CHECK.state(x, "put(0, -1) again", () -> x.put(0, -1));
        for (int wrong : new int[] {-1, 1, 12, MIN, MAX}) {
            CHECK.outside(x, "put() of no piece", () -> x.put(wrong, 0));
            CHECK.outside(x, "put() of no piece to none", () -> x.put(wrong, -1));
        }
        for (int wrong : new int[] {-2, 2, 6, MIN, MAX}) {
            CHECK.outside(x, "put() to no GAG", () -> x.put(0, wrong));
        }
    }

    /** Kit that is put or taken away changes both gags, whatever its kind, and whether it is fit or not. */
    private static void putChanges() {
        Stuntledger x = Stage.armed(0, 4);
        x.gag(0, 0, 70, 4);
        x.walk(1, 63);
        Stage.prepareAndArm(x, 1);
        x.kit(3, 10, 1);
        CHECK.due("put() to what is ARMED", x.put(0, 0), -1);
        CHECK.due("ARMED behind that", x.many(7), 2);
        CHECK.due("SIGNATURES behind that", x.ofGag(0, 9), 0);
        CHECK.due("STEP behind that", x.ofGag(0, 8), 2);
        CHECK.due("stood DOWN behind that", x.many(13), 1);
        Stage.prepareAndArm(x, 0);
        CHECK.due("put() from what is ARMED to what is ARMED", x.put(0, 1), 0);
        CHECK.due("ARMED behind that", x.many(7), 0);
        CHECK.due("SIGNATURES behind that", x.ofGag(0, 9) + x.ofGag(1, 9), 0);
        CHECK.due("STEPS behind that", x.ofGag(0, 8) + 10 * x.ofGag(1, 8), 22);
        CHECK.due("stood DOWN behind that", x.many(13), 3);
        Stage.prepareAndArm(x, 1);
        CHECK.due("put() away from what is ARMED", x.put(0, -1), 1);
        CHECK.due("ARMED behind that", x.many(7), 0);
        CHECK.due("STEP behind that", x.ofGag(1, 8), 2);
        Stuntledger y = Stage.crew();
        y.gag(0, 0, 50, 4);
        y.kit(0, 10, 1);
        y.rehearse(0);
        y.put(0, 0);
        CHECK.due("a STEP of 1 behind put()", y.ofGag(0, 8), 1);
        y.rehearse(0);
        y.rehearse(0);
        y.put(0, -1);
        CHECK.due("a STEP of 3 behind put()", y.ofGag(0, 8), 2);
    }
}
