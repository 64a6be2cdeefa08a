import java.util.Set;
import java.util.TreeSet;

/**
 * Each argument of each call at its edges: the smallest and the greatest value that is taken, the next one on
 * either side, the least and the greatest int; which exception is thrown where several apply; and that a call
 * that throws changes nothing. All in a ledger that is empty, in one with some of all, in full ones.
 */
public final class ArgumentsTest {
    private static final Check CHECK = new Check("ArgumentsTest");
    private static final int MIN = Integer.MIN_VALUE;
    private static final int MAX = Integer.MAX_VALUE;
    private static final String TAKEN = "";

    /** How the ledgers of this round are made: 0 empty, 1 with some of all, 2 full, 3 full and armed. */
    private final int round;
    private final int people;
    private final int pieces;
    private final int gags;

    private ArgumentsTest(int round) {
        this.round = round;
        Stuntledger x = make();
        people = x.many(3);
        pieces = x.many(4);
        gags = x.many(6);
    }

    public static void main(String[] args) {
        for (int round = 0; round < 4; round++) {
            ArgumentsTest test = new ArgumentsTest(round);
            test.roundsAreAsTold();
            test.person();
            test.skill();
            test.walk();
            test.kit();
            test.inspect();
            test.put();
            test.gag();
            test.change();
            test.rehearse();
            test.sign();
            test.no();
            test.armDownAndTake();
            test.weather();
            test.pass();
            test.ofPerson();
            test.ofKit();
            test.ofGag();
            test.ofKindAndMany();
            test.wouldBe();
        }
        CHECK.end();
    }

    private Stuntledger make() {
        switch (round) {
            case 0:
                return new Stuntledger();
            case 1:
                return Stage.some();
            case 2:
                return Stage.full();
            default:
                return Stage.fullAndArmed();
        }
    }

    private void roundsAreAsTold() {
        CHECK.due("PEOPLE in round " + round, people, new int[] {0, 3, 8, 8}[round]);
        CHECK.due("KIT in round " + round, pieces, new int[] {0, 2, 12, 12}[round]);
        CHECK.due("GAGS in round " + round, gags, new int[] {0, 2, 6, 6}[round]);
        CHECK.due("ARMED in round " + round, make().many(7), new int[] {0, 1, 0, 1}[round]);
        CHECK.due("HURT in round " + round, make().many(9), new int[] {0, 0, 1, 1}[round]);
    }

    /** The edges of a range, what is next to them, and the least and the greatest int. */
    private static Set<Integer> around(int least, int most) {
        Set<Integer> values = new TreeSet<>();
        for (int v : new int[] {MIN, -1, least - 1, least, most, most + 1, MAX}) {
            values.add(v);
        }
        return values;
    }

    /** All of a range, what is next to it, and the least and the greatest int. */
    private static Set<Integer> all(int least, int most) {
        Set<Integer> values = around(least, most);
        for (int v = least; v <= most; v++) {
            values.add(v);
        }
        return values;
    }

    private static boolean in(int v, int least, int most) {
        return least <= v && v <= most;
    }

    private boolean isPerson(int p) {
        return in(p, 0, people - 1);
    }

    private boolean isPiece(int k) {
        return in(k, 0, pieces - 1);
    }

    private boolean isGag(int g) {
        return in(g, 0, gags - 1);
    }

    private static String first(boolean isOutside, boolean isIllegal, boolean isState) {
        return isOutside ? Check.OUTSIDE : isIllegal ? Check.ILLEGAL : isState ? Check.STATE : TAKEN;
    }

    /** Whether the call was due to be taken: then it must not have thrown. */
    private boolean isTaken(Stuntledger x, String call, Check.Call made, String due) {
        String name = call + " in round " + round;
        if (!due.equals(TAKEN)) {
            CHECK.refused(x, name, made, due);
            return false;
        }
        CHECK.due(name + " is refused", Check.outcome(made).startsWith("throws."), false);
        return true;
    }

    private void person() {
        for (int flags = 0; flags < 4; flags++) {
            boolean isMinor = (flags & 1) != 0;
            boolean isMedic = (flags & 2) != 0;
            Stuntledger x = make();
            if (isTaken(x, "person(" + isMinor + ", " + isMedic + ")", () -> x.person(isMinor, isMedic),
                    first(false, false, people == 8))) {
                CHECK.due("MINOR and MEDIC", x.ofPerson(people, 4) + 2 * x.ofPerson(people, 5), flags);
            }
        }
    }

    private void skill() {
        for (int p : all(0, people - 1)) {
            for (int kind : all(0, 3)) {
                for (int skill : around(0, 9)) {
                    Stuntledger x = make();
                    if (isTaken(x, "skill(" + p + ", " + kind + ", " + skill + ")", () -> x.skill(p, kind, skill),
                            first(!isPerson(p) || !in(kind, 0, 3), !in(skill, 0, 9), false))) {
                        CHECK.due("the SKILL then", x.ofPerson(p, kind), skill);
                    }
                }
            }
        }
    }

    private void walk() {
        for (int p : all(0, people - 1)) {
            for (int place : all(0, 99)) {
                Stuntledger x = make();
                if (isTaken(x, "walk(" + p + ", " + place + ")", () -> x.walk(p, place),
                        first(!isPerson(p), !in(place, 0, 99), false))) {
                    CHECK.due("the PLACE then", x.ofPerson(p, 6), place);
                }
            }
        }
    }

    private void kit() {
        for (int kind : all(0, 3)) {
            for (int guard : around(1, 90)) {
                for (int uses : all(1, 5)) {
                    Stuntledger x = make();
                    if (isTaken(x, "kit(" + kind + ", " + guard + ", " + uses + ")", () -> x.kit(kind, guard, uses),
                            first(!in(kind, 0, 3), !in(guard, 1, 90) || !in(uses, 1, 5), pieces == 12))) {
                        CHECK.due("the KIND then", x.ofKit(pieces, 0), kind);
                        CHECK.due("the GUARD then", x.ofKit(pieces, 1), guard);
                        CHECK.due("the USES then", x.ofKit(pieces, 2), uses);
                    }
                }
            }
        }
    }

    private void inspect() {
        for (int k : all(0, pieces - 1)) {
            Stuntledger x = make();
            if (isTaken(x, "inspect(" + k + ")", () -> x.inspect(k), first(!isPiece(k), false, false))) {
                CHECK.due("the DAY then", x.ofKit(k, 3), 0);
            }
        }
    }

    private void put() {
        for (int k : all(0, pieces - 1)) {
            for (int g : all(-1, gags - 1)) {
                Stuntledger x = make();
                boolean isOutside = !isPiece(k) || g != -1 && !isGag(g);
                if (isTaken(x, "put(" + k + ", " + g + ")", () -> x.put(k, g),
                        first(isOutside, false, !isOutside && x.ofKit(k, 4) == g))) {
                    CHECK.due("the GAG then", x.ofKit(k, 4), g);
                }
            }
        }
    }

    private void gag() {
        for (int kind : all(0, 3)) {
            for (int p : around(0, people - 1)) {
                for (int place : around(0, 99)) {
                    for (int level : around(1, 30)) {
                        Stuntledger x = make();
                        String call = "gag(" + kind + ", " + p + ", " + place + ", " + level + ")";
                        if (isTaken(x, call, () -> x.gag(kind, p, place, level),
                                first(!in(kind, 0, 3) || !isPerson(p), !in(place, 0, 99) || !in(level, 1, 30), gags == 6))) {
                            CHECK.due("the KIND then", x.ofGag(gags, 0), kind);
                            isToldAs(x, gags, p, place, level);
                        }
                    }
                }
            }
        }
    }

    private void change() {
        for (int g : all(0, gags - 1)) {
            for (int p : around(0, people - 1)) {
                for (int place : around(0, 99)) {
                    for (int level : around(1, 30)) {
                        Stuntledger x = make();
                        String call = "change(" + g + ", " + p + ", " + place + ", " + level + ")";
                        if (isTaken(x, call, () -> x.change(g, p, place, level),
                                first(!isGag(g) || !isPerson(p), !in(place, 0, 99) || !in(level, 1, 30), false))) {
                            isToldAs(x, g, p, place, level);
                        }
                    }
                }
            }
        }
    }

    private static void isToldAs(Stuntledger x, int gag, int performer, int place, int level) {
        CHECK.due("the PERFORMER then", x.ofGag(gag, 1), performer);
        CHECK.due("the PLACE then", x.ofGag(gag, 2), place);
        CHECK.due("the LEVEL then", x.ofGag(gag, 3), level);
    }

    private void rehearse() {
        for (int g : all(0, gags - 1)) {
            Stuntledger x = make();
            boolean isState = isGag(g) && (x.ofGag(g, 11) == 1 || x.ofPerson(x.ofGag(g, 1), 8) == 1);
            isTaken(x, "rehearse(" + g + ")", () -> x.rehearse(g), first(!isGag(g), false, isState));
        }
    }

    private void sign() {
        for (int g : all(0, gags - 1)) {
            for (int signer : all(0, 2)) {
                Stuntledger x = make();
                boolean isOutside = !isGag(g) || !in(signer, 0, 2);
                boolean isState = !isOutside && (x.ofGag(g, 8) < 4 || (x.ofGag(g, 9) >> signer & 1) == 1);
                if (isTaken(x, "sign(" + g + ", " + signer + ")", () -> x.sign(g, signer),
                        first(isOutside, false, isState))) {
                    CHECK.due("signed then", x.ofGag(g, 9) >> signer & 1, 1);
                }
            }
        }
    }

    private void no() {
        for (int p : all(0, people - 1)) {
            for (int g : all(0, gags - 1)) {
                for (int is = 0; is < 2; is++) {
                    boolean isNo = is == 1;
                    Stuntledger x = make();
                    if (isTaken(x, "no(" + p + ", " + g + ", " + isNo + ")", () -> x.no(p, g, isNo) ? 1 : 0,
                            first(!isPerson(p) || !isGag(g), false, false))) {
                        CHECK.due("who says NO then", x.ofGag(g, 10), is << p);
                    }
                }
            }
        }
    }

    private void armDownAndTake() {
        for (int g : all(0, gags - 1)) {
            Stuntledger x = make();
            boolean isArmed = isGag(g) && x.ofGag(g, 11) == 1;
            isTaken(x, "arm(" + g + ")", () -> x.arm(g), first(!isGag(g), false, isArmed));
            Stuntledger y = make();
            isTaken(y, "down(" + g + ")", () -> y.down(g), first(!isGag(g), false, !isArmed));
            Stuntledger z = make();
            isTaken(z, "take(" + g + ")", () -> z.take(g), first(!isGag(g), false, !isArmed));
        }
    }

    private void weather() {
        for (int wind : all(0, 9)) {
            for (int light = 0; light < 2; light++) {
                boolean isLight = light == 1;
                Stuntledger x = make();
                if (isTaken(x, "weather(" + wind + ", " + isLight + ")", () -> x.weather(wind, isLight),
                        first(false, !in(wind, 0, 9), false))) {
                    CHECK.due("the WIND then", x.many(1), wind);
                    CHECK.due("LIGHT then", x.many(2), light);
                }
            }
        }
    }

    private void pass() {
        for (int days : all(1, 30)) {
            Stuntledger x = make();
            if (isTaken(x, "pass(" + days + ")", () -> x.pass(days),
                    first(false, !in(days, 1, 30), x.many(7) != 0))) {
                CHECK.due("the DAY then", x.many(0), days);
            }
        }
    }

    private void ofPerson() {
        for (int p : all(0, people - 1)) {
            Stuntledger x = make();
            for (int what : all(0, 11)) {
                isTaken(x, "ofPerson(" + p + ", " + what + ")", () -> x.ofPerson(p, what),
                        first(!isPerson(p), !in(what, 0, 11), false));
            }
        }
    }

    private void ofKit() {
        for (int k : all(0, pieces - 1)) {
            Stuntledger x = make();
            for (int what : all(0, 5)) {
                isTaken(x, "ofKit(" + k + ", " + what + ")", () -> x.ofKit(k, what),
                        first(!isPiece(k), !in(what, 0, 5), false));
            }
        }
    }

    private void ofGag() {
        for (int g : all(0, gags - 1)) {
            Stuntledger x = make();
            for (int what : all(0, 13)) {
                isTaken(x, "ofGag(" + g + ", " + what + ")", () -> x.ofGag(g, what),
                        first(!isGag(g), !in(what, 0, 13), false));
            }
        }
    }

    private void ofKindAndMany() {
        Stuntledger x = make();
        for (int kind : all(0, 3)) {
            String due = first(!in(kind, 0, 3), false, false);
            isTaken(x, "ofKind(" + kind + ", true)", () -> x.ofKind(kind, true), due);
            isTaken(x, "ofKind(" + kind + ", false)", () -> x.ofKind(kind, false), due);
        }
        for (int what : all(0, 13)) {
            isTaken(x, "many(" + what + ")", () -> x.many(what), first(false, !in(what, 0, 13), false));
        }
    }

    private void wouldBe() {
        Stuntledger x = make();
        long before = x.digest();
        for (int g : all(0, gags - 1)) {
            String due = first(!isGag(g), false, false);
            isTaken(x, "mostLevel(" + g + ")", () -> x.mostLevel(g), due);
            isTaken(x, "bestPerformer(" + g + ")", () -> x.bestPerformer(g), due);
            isTaken(x, "needs(" + g + ")", () -> x.needs(g), due);
            isTaken(x, "safeFrom(" + g + ")", () -> x.safeFrom(g), due);
        }
        CHECK.due("digest() behind what would be, in round " + round, x.digest(), before);
    }
}
