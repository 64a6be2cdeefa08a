import java.util.Random;

/**
 * "A method that throws an exception changes nothing": two ledgers are led through the same seeded calls, and one
 * of them is asked for much that it must refuse in between; nothing that comes later may tell them apart.
 */
public final class RefusedTest {
    private static final Check CHECK = new Check("RefusedTest");
    private static final int RUNS = 400;
    /** With so many rounds an object stays under the 512 calls that it is used for at most. */
    private static final int ROUNDS = 16;
    private static final int MOST_REFUSALS_A_ROUND = 12;
    /** One of so many refusals is asked for, round by round. */
    private static final int ONE_OF = 4;
    /** Numbers that no person, piece, gag, kind, signer, skill, place, level, guard or wind ever has. */
    private static final int[] WRONG = {Integer.MIN_VALUE, -1000, -2, 100, 128, Integer.MAX_VALUE};

    private final Random random;
    private final Stuntledger plain;
    private final Stuntledger refusing;
    private int refusals = 0;
    private int refusalsOfRound = 0;

    private RefusedTest(int seed) {
        random = new Random(seed);
        plain = seed % 2 == 0 ? Stage.some() : Stage.fullAndArmed();
        refusing = seed % 2 == 0 ? Stage.some() : Stage.fullAndArmed();
    }

    public static void main(String[] args) {
        refusedOfWhatIsArmed();
        int refusals = 0;
        for (int seed = 0; seed < RUNS; seed++) {
            RefusedTest test = new RefusedTest(seed);
            test.lead(seed);
            refusals += test.refusals;
        }
        CHECK.due("there were many refusals: " + refusals, refusals > 5 * ROUNDS * RUNS, true);
        CHECK.end();
    }

    /** What would stand a gag down, hurt or tire, were it not refused. */
    private static void refusedOfWhatIsArmed() {
        Stuntledger x = Stage.fullAndArmed();
        x.change(3, 0, 99, 1);
        CHECK.state(x, "person() with 8", () -> x.person(false, true));
        CHECK.illegal(x, "walk() to beyond the last PLACE", () -> x.walk(2, 100));
        CHECK.illegal(x, "weather() of too much WIND, without LIGHT", () -> x.weather(10, false));
        CHECK.outside(x, "no() of nobody", () -> x.no(8, 0, true) ? 1 : 0);
        CHECK.state(x, "put() to the same", () -> x.put(0, 0));
        CHECK.outside(x, "put() away to no GAG", () -> x.put(0, 6));
        CHECK.outside(x, "change() to nobody", () -> x.change(0, 8, 50, 2));
        CHECK.illegal(x, "change() to a LEVEL that is too low", () -> x.change(0, 0, 50, 0));
        CHECK.illegal(x, "change() to a LEVEL that is too high", () -> x.change(0, 0, 50, 31));
        CHECK.state(x, "rehearse() of what is ARMED", () -> x.rehearse(0));
        CHECK.state(x, "arm() of what is ARMED", () -> x.arm(0));
        CHECK.state(x, "sign() again", () -> x.sign(0, 0));
        CHECK.state(x, "pass() with what is ARMED", () -> x.pass(1));
        CHECK.state(x, "take() of what is not ARMED", () -> x.take(1));
        CHECK.state(x, "down() of what is not ARMED", () -> x.down(1));
        CHECK.due("ARMED behind all that", x.many(7), 1);
        CHECK.due("stood DOWN behind all that", x.many(13), 0);
    }

    private void lead(int seed) {
        for (int i = 0; i < ROUNDS; i++) {
            String name = "run " + seed + ", call " + i;
            refuse(name);
            int choice = random.nextInt(16);
            int p = random.nextInt(8);
            int g = random.nextInt(6);
            int n = random.nextInt(100);
            CHECK.due(name + ", answer of call " + choice + " (" + p + ", " + g + ", " + n + ")",
                    Check.outcome(() -> call(refusing, choice, p, g, n)), Check.outcome(() -> call(plain, choice, p, g, n)));
            CHECK.due(name + ", digest()", refusing.digest(), plain.digest());
            CHECK.due(name + ", meanMargin()", refusing.meanMargin(), plain.meanMargin());
        }
    }

    /** One of the calls that change something; the gag's number is also a piece's. */
    private static long call(Stuntledger x, int choice, int p, int g, int n) {
        switch (choice) {
            case 0:
                return x.person(n % 2 == 0, n % 3 == 0);
            case 1:
                return x.skill(p, g % 4, n % 10);
            case 2:
                return x.walk(p, n);
            case 3:
                return x.kit(g % 4, 1 + n % 90, 1 + n % 5);
            case 4:
                return x.inspect(g);
            case 5:
                return x.put(g, n % 7 - 1);
            case 6:
                return x.gag(g % 4, p, n, 1 + n % 6);
            case 7:
                return x.change(g, p, n, 1 + n % 6);
            case 8:
                return x.no(p, g, n % 3 == 0) ? 1 : 0;
            case 9:
                return x.weather(n % 10, n % 3 != 0);
            case 10:
                return x.pass(1 + n % 4);
            case 11:
                return x.take(g);
            case 12:
                return x.down(g);
            default:
                return bringToArm(x, g);
        }
    }

    /** The answers of what leads to an armed gag, as one number. */
    private static long bringToArm(Stuntledger x, int gag) {
        long answers = 0;
        for (int i = 0; i < 4; i++) {
            answers = 10 * answers + x.rehearse(gag);
        }
        for (int signer = 0; signer < 3; signer++) {
            answers = 10 * answers + x.sign(gag, signer);
        }
        return 100 * answers + x.arm(gag);
    }

    private int wrong() {
        return WRONG[random.nextInt(WRONG.length)];
    }

    private void refused(String name, Check.Call made) {
        if (refusalsOfRound == MOST_REFUSALS_A_ROUND || random.nextInt(ONE_OF) != 0) {
            return;
        }
        refusals++;
        refusalsOfRound++;
        CHECK.due(name, Check.outcome(made).startsWith("throws."), true);
    }

    private void refuse(String name) {
        Stuntledger x = refusing;
        refusalsOfRound = 0;
        refuseByState(name);
        int w = wrong();
        int v = wrong();
        refused(name + ", skill() of nobody", () -> x.skill(w, 0, 9));
        refused(name + ", skill() of no KIND", () -> x.skill(0, w, 9));
        refused(name + ", skill() of no SKILL", () -> x.skill(0, 0, w));
        refused(name + ", walk() of nobody", () -> x.walk(w, 50));
        refused(name + ", walk() to no PLACE", () -> x.walk(2, w));
        refused(name + ", kit() of no KIND", () -> x.kit(w, 1, 1));
        refused(name + ", kit() of no GUARD", () -> x.kit(0, w, 1));
        refused(name + ", kit() of no USES", () -> x.kit(0, 1, w));
        refused(name + ", inspect() of no piece", () -> x.inspect(w));
        refused(name + ", put() of no piece", () -> x.put(w, 0));
        refused(name + ", put() to no GAG", () -> x.put(0, w));
        refused(name + ", put() to the same", () -> x.put(0, x.ofKit(0, 4)));
        refused(name + ", gag() of no KIND", () -> x.gag(w, 0, 0, 1));
        refused(name + ", gag() of nobody", () -> x.gag(0, w, 0, 1));
        refused(name + ", gag() at no PLACE", () -> x.gag(0, 0, w, 1));
        refused(name + ", gag() of no LEVEL", () -> x.gag(0, 0, 0, w));
        refused(name + ", change() of no GAG", () -> x.change(w, 0, 0, 1));
        refused(name + ", change() to nobody", () -> x.change(0, w, 0, 1));
        refused(name + ", change() to no PLACE", () -> x.change(0, 0, w, 1));
        refused(name + ", change() to no LEVEL", () -> x.change(0, 0, 0, w));
        refused(name + ", rehearse() of no GAG", () -> x.rehearse(w));
        refused(name + ", sign() of no GAG", () -> x.sign(w, 0));
        refused(name + ", sign() of no SIGNER", () -> x.sign(0, w));
        refused(name + ", no() of nobody", () -> x.no(w, 0, true) ? 1 : 0);
        refused(name + ", no() to no GAG", () -> x.no(0, w, true) ? 1 : 0);
        refused(name + ", arm() of no GAG", () -> x.arm(w));
        refused(name + ", down() of no GAG", () -> x.down(w));
        refused(name + ", take() of no GAG", () -> x.take(w));
        refused(name + ", weather() of no WIND", () -> x.weather(w, false));
        refused(name + ", pass() of no DAYS", () -> x.pass(w));
        refused(name + ", ofPerson() of nobody and nothing", () -> x.ofPerson(w, v));
        refused(name + ", ofKit() of nothing", () -> x.ofKit(0, w));
        refused(name + ", ofGag() of nothing", () -> x.ofGag(0, w));
        refused(name + ", many() of nothing", () -> x.many(w));
        refused(name + ", mostLevel() of no GAG", () -> x.mostLevel(w));
        refused(name + ", safeFrom() of no GAG", () -> x.safeFrom(w));
    }

    /** What only the state forbids, of one of the gags; the state is asked of the other ledger. */
    private void refuseByState(String name) {
        Stuntledger x = refusing;
        if (plain.many(3) == 8) {
            refused(name + ", person() with 8", () -> x.person(true, true));
        }
        if (plain.many(4) == 12) {
            refused(name + ", kit() with 12", () -> x.kit(0, 1, 1));
        }
        int gags = plain.many(6);
        if (gags == 6) {
            refused(name + ", gag() with 6", () -> x.gag(0, 0, 0, 1));
        }
        if (plain.many(7) != 0) {
            refused(name + ", pass() with what is ARMED", () -> x.pass(30));
        }
        int gag = random.nextInt(gags);
        if (plain.ofGag(gag, 11) == 1) {
            refused(name + ", arm() of what is ARMED", () -> x.arm(gag));
            refused(name + ", rehearse() of what is ARMED", () -> x.rehearse(gag));
            refused(name + ", sign() of what is ARMED", () -> x.sign(gag, 1));
        } else {
            refused(name + ", down() of what is not ARMED", () -> x.down(gag));
            refused(name + ", take() of what is not ARMED", () -> x.take(gag));
        }
        if (plain.ofPerson(plain.ofGag(gag, 1), 8) == 1) {
            refused(name + ", rehearse() of the HURT", () -> x.rehearse(gag));
        }
        if (plain.ofGag(gag, 8) < 4) {
            refused(name + ", sign() at a STEP below 4", () -> x.sign(gag, 2));
        }
    }
}
