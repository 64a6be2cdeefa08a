/** Promises 16 and 17: wind, light and days. */
public final class WeatherAndDaysTest {
    private static final Check CHECK = new Check("WeatherAndDaysTest");
    private static final int MIN = Integer.MIN_VALUE;
    private static final int MAX = Integer.MAX_VALUE;

    public static void main(String[] args) {
        weather();
        windStandsDown();
        darknessStandsDown();
        ringsGrow();
        severalAtOnce();
        pass();
        passHeals();
        passThrows();
        CHECK.end();
    }

    private static void weather() {
        Stuntledger x = new Stuntledger();
        CHECK.due("weather(9, false)", x.weather(9, false), 0);
        CHECK.due("WIND", x.many(1), 9);
        CHECK.due("LIGHT", x.many(2), 0);
        CHECK.due("weather(0, true)", x.weather(0, true), 0);
        CHECK.due("WIND", x.many(1), 0);
        CHECK.due("LIGHT", x.many(2), 1);
        x.weather(4, false);
        for (int wrong : new int[] {-1, 10, MIN, MAX}) {
            CHECK.illegal(x, "weather() of no WIND", () -> x.weather(wrong, true));
        }
    }

    private static void windStandsDown() {
        int[] limits = {7, 4, 6, 9};
        for (int kind = 0; kind < 4; kind++) {
            for (int wind = 0; wind <= 9; wind++) {
                Stuntledger x = Stage.armed(kind, 1);
                int want = wind > limits[kind] ? 1 : 0;
                String call = "weather(" + wind + ", true) with KIND " + kind;
                CHECK.due(call, x.weather(wind, true), want);
                CHECK.due("ARMED behind " + call, x.many(7), 1 - want);
                CHECK.due("stood DOWN behind " + call, x.many(13), want);
                CHECK.due("SIGNATURES behind " + call, x.ofGag(0, 9), 7);
                CHECK.due("MISSES behind " + call, x.many(8), 0);
            }
        }
        // A margin below 0 bars it ahead of the wind, but stands nothing down by itself.
        Stuntledger y = Stage.armed(3, 11);
        y.skill(0, 3, 0);
        CHECK.due("MARGIN", y.ofGag(0, 7), 20 - 55 - 6);
        CHECK.due("weather(9, true) with a MARGIN below 0", y.weather(9, true), 0);
        CHECK.due("weather(0, false) with a MARGIN below 0", y.weather(0, false), 1);
        Stuntledger z = Stage.armed(0, 5);
        z.skill(0, 0, 0);
        CHECK.due("what bars it", z.ofGag(0, 12), 5);
        CHECK.due("weather(8, true) with a MARGIN below 0", z.weather(8, true), 1);
    }

    private static void darknessStandsDown() {
        for (int kind = 0; kind < 4; kind++) {
            Stuntledger x = Stage.armed(kind, 1);
            CHECK.due("weather(0, true) with KIND " + kind, x.weather(0, true), 0);
            CHECK.due("weather(0, false) with KIND " + kind, x.weather(0, false), kind == 1 ? 0 : 1);
            CHECK.due("stood DOWN behind that", x.many(13), kind == 1 ? 0 : 1);
        }
    }

    /** Cars of level 5 at place 50: energy 30 and 5 more with each wind, ring 2, with wind 3 it is 3. */
    private static void ringsGrow() {
        Stuntledger x = Stage.armed(2, 5);
        x.person(false, false);
        x.walk(2, 53);
        x.walk(0, 52);
        CHECK.due("RING", x.ofGag(0, 5), 2);
        CHECK.due("weather(2, true)", x.weather(2, true), 0);
        CHECK.due("RING", x.ofGag(0, 5), 2);
        CHECK.due("weather(3, true)", x.weather(3, true), 1);
        CHECK.due("RING", x.ofGag(0, 5), 3);
        CHECK.due("ARMED", x.many(7), 0);
        CHECK.due("stood DOWN", x.many(13), 1);
        CHECK.due("MISSES", x.many(8), 0);
        CHECK.due("SIGNATURES", x.ofGag(0, 9), 7);
        CHECK.due("arm()", x.arm(0), 10);
        x.weather(0, true);
        CHECK.due("arm()", x.arm(0), 0);
        Stuntledger y = Stage.armed(0, 5);
        y.person(false, false);
        y.walk(2, 54);
        CHECK.due("weather(7, true) with falls", y.weather(7, true), 0);
        CHECK.due("RING of falls", y.ofGag(0, 5), 3);
    }

    private static void severalAtOnce() {
        Stuntledger x = Stage.crew();
        x.walk(1, 55);
        for (int kind = 0; kind < 4; kind++) {
            x.gag(kind, 0, 30 + 15 * kind, 3);
        }
        for (int kind = 0; kind < 4; kind++) {
            Stage.prepareAndArm(x, kind);
        }
        CHECK.due("weather(5, true)", x.weather(5, true), 2);
        CHECK.due("weather(7, true)", x.weather(7, true), 4);
        CHECK.due("weather(7, false)", x.weather(7, false), 9);
        CHECK.due("stood DOWN", x.many(13), 4);
    }

    private static void pass() {
        Stuntledger x = new Stuntledger();
        CHECK.due("pass(1)", x.pass(1), 1);
        CHECK.due("pass(30)", x.pass(30), 31);
        CHECK.due("DAY", x.many(0), 31);
        Stuntledger y = Stage.crew();
        y.gag(3, 0, 50, 1);
        y.gag(0, 0, 50, 30);
        for (int i = 0; i < 40; i++) {
            y.rehearse(0);
        }
        y.pass(1);
        CHECK.due("TIRED", y.ofPerson(0, 7), 70);
        y.pass(2);
        CHECK.due("TIRED", y.ofPerson(0, 7), 10);
        y.pass(1);
        CHECK.due("TIRED", y.ofPerson(0, 7), 0);
        CHECK.due("TIRED of the other", y.ofPerson(1, 7), 0);
        Stage.miss(y, 1, 9);
        CHECK.due("CARE", y.ofKind(0, true), 3);
        y.pass(2);
        CHECK.due("CARE two DAYS later", y.ofKind(0, true), 1);
        y.pass(2);
        CHECK.due("CARE four DAYS later", y.ofKind(0, true), 0);
        CHECK.due("MISSES ever", y.ofKind(0, false), 9);
        CHECK.due("CARE of fights", y.ofKind(3, true), 0);
    }

    private static void passHeals() {
        for (int first = 1; first <= 5; first++) {
            Stuntledger x = Stage.ready(0, 5);
            x.pass(3);
            x.arm(0);
            x.skill(0, 0, 0);
            x.take(0);
            CHECK.due("HURT", x.ofPerson(0, 8), 1);
            x.pass(first);
            CHECK.due("HURT behind " + first + " DAYS", x.ofPerson(0, 8), first < 5 ? 1 : 0);
            x.pass(6 - first);
            CHECK.due("HURT behind 6 DAYS", x.ofPerson(0, 8), 0);
            CHECK.due("PEOPLE that are HURT", x.many(9), 0);
            CHECK.due("HURT ever", x.many(10), 1);
        }
        Stuntledger y = Stage.armed(0, 5);
        y.skill(0, 0, 0);
        y.take(0);
        y.pass(30);
        CHECK.due("HURT behind 30 DAYS", y.ofPerson(0, 8), 0);
        y.skill(0, 0, 9);
        Stage.prepareAndArm(y, 0);
        y.skill(0, 0, 0);
        y.take(0);
        y.pass(4);
        CHECK.due("HURT again, behind 4 DAYS", y.ofPerson(0, 8), 1);
        CHECK.due("HURT ever", y.many(10), 2);
    }

    private static void passThrows() {
        Stuntledger x = Stage.armed(0, 5);
        CHECK.state(x, "pass() with what is ARMED", () -> x.pass(1));
        for (int wrong : new int[] {-1, 0, 31, MIN, MAX}) {
            CHECK.illegal(x, "pass() of wrong DAYS with what is ARMED", () -> x.pass(wrong));
        }
        x.down(0);
        for (int wrong : new int[] {-1, 0, 31, MIN, MAX}) {
            CHECK.illegal(x, "pass() of wrong DAYS", () -> x.pass(wrong));
        }
        CHECK.due("pass(30)", x.pass(30), 30);
        CHECK.due("what bars it then", x.ofGag(0, 12), 0);
    }
}
