import java.util.Random;

/** Holds the class against the model through many seeded runs of calls, call by call. */
public final class ModelTest {
    private static final int RUNS = 1400;
    /** What an object is used for at most; each call that is drawn is followed by two that ask. */
    private static final int MOST_CALLS = 512;
    private static final int[] STRANGE = {
        Integer.MIN_VALUE, -1000, -2, -1, 4, 8, 10, 12, 13, 14, 31, 91, 100, 1000, Integer.MAX_VALUE
    };
    private static final String[] RARE = {
        "a walk stands several down", "all are not enough", "armed: 1", "armed: 2", "armed: 3", "as tired as can be",
        "barred by 1", "barred by 2", "barred by 3", "barred by 4", "barred by 5", "barred by 6", "barred by 7",
        "barred by 8", "barred by 9", "barred by 10", "barred by 11",
        "down: a walk", "down: change", "down: dark", "down: down", "down: hurt", "down: kit put",
        "down: kit taken away", "down: no", "down: one comes new", "down: the ring grows", "down: third miss",
        "down: wind", "healed", "hurt", "hurt medic near", "medic paid", "miss signed", "miss unsigned",
        "needs one", "needs several", "performing medic paid"
    };

    private final Check check;
    private final Random random;
    private final String run;
    private final int favourite;
    private final Stuntledger x = new Stuntledger();
    private final Model m = new Model();
    private int calls = 0;

    private ModelTest(Check check, int seed) {
        this.check = check;
        this.random = new Random(seed);
        this.favourite = seed % 4;
        this.run = "run " + seed;
    }

    public static void main(String[] args) {
        Check check = new Check("ModelTest");
        java.util.Map<String, Integer> seen = new java.util.TreeMap<>();
        for (int seed = 0; seed < RUNS; seed++) {
            ModelTest test = new ModelTest(check, seed);
            test.runAll();
            test.m.seen.forEach((what, times) -> seen.merge(what, times, Integer::sum));
        }
        for (String what : RARE) {
            check.due("was there: " + what, seen.containsKey(what), true);
        }
        if (args.length > 1) {
            System.out.println(seen);
        }
        check.end();
    }

    private void runAll() {
        boolean isFull = oneIn(5);
        for (int i = 0, n = isFull ? 9 : 2 + upTo(4); i < n; i++) {
            anyPerson();
        }
        for (int i = 0, n = isFull ? 13 : upTo(8); i < n; i++) {
            anyKit();
        }
        for (int i = 0, n = isFull ? 7 : 1 + upTo(4); i < n; i++) {
            anyGag();
        }
        while (!isUsedUp()) {
            anyCall();
        }
    }

    private boolean isUsedUp() {
        return calls + 3 > MOST_CALLS;
    }

    private void same(String call, Check.Call ofClass, Check.Call ofModel) {
        if (isUsedUp()) {
            return;
        }
        String name = run + ", call " + (calls + 1) + ", " + call;
        calls += 3;
        check.due(name, Check.outcome(ofClass), Check.outcome(ofModel));
        check.due(name + ", meanMargin()", x.meanMargin(), m.meanMargin());
        check.due(name + ", digest()", x.digest(), m.digest());
    }

    private int upTo(int bound) {
        return random.nextInt(bound + 1);
    }

    private boolean oneIn(int n) {
        return random.nextInt(n) == 0;
    }

    /** Most often a number that is there, now and then one that is not. */
    private int number(int least, int most) {
        if (oneIn(60)) {
            return STRANGE[random.nextInt(STRANGE.length)];
        }
        return most < least ? least : least + random.nextInt(most - least + 1);
    }

    private int person() {
        return number(0, m.people.size() - 1);
    }

    private int kit() {
        return number(0, m.kits.size() - 1);
    }

    private int gag() {
        return number(0, m.gags.size() - 1);
    }

    /** Half of a run's numbers are of one kind, so that its misses and its kit meet. */
    private int kind() {
        return oneIn(2) ? favourite : number(0, 3);
    }

    /** Near a gag, or anywhere. */
    private int place() {
        if (m.gags.isEmpty() || oneIn(3)) {
            return number(0, 99);
        }
        int near = m.gags.get(random.nextInt(m.gags.size())).place + random.nextInt(61) - 30;
        return near < 0 || near > 99 ? number(0, 99) : near;
    }

    private int level() {
        return oneIn(6) ? number(1, 30) : number(1, 9);
    }

    private void anyPerson() {
        boolean isMinor = oneIn(5);
        boolean isMedic = oneIn(2);
        same("person(" + isMinor + ", " + isMedic + ")",
                () -> x.person(isMinor, isMedic), () -> m.person(isMinor, isMedic));
        int p = m.people.size() - 1;
        for (int k = 0; k < 4; k++) {
            skill(p, k, oneIn(3) ? number(0, 9) : number(5, 9));
        }
        if (!oneIn(4)) {
            walk(p, place());
        }
    }

    private void skill(int p, int k, int s) {
        same("skill(" + p + ", " + k + ", " + s + ")", () -> x.skill(p, k, s), () -> m.skill(p, k, s));
    }

    private void walk(int p, int place) {
        same("walk(" + p + ", " + place + ")", () -> x.walk(p, place), () -> m.walk(p, place));
    }

    private void anyKit() {
        int kind = kind();
        int guard = oneIn(2) ? number(1, 90) : number(30, 34);
        int uses = number(1, 5);
        same("kit(" + kind + ", " + guard + ", " + uses + ")",
                () -> x.kit(kind, guard, uses), () -> m.kit(kind, guard, uses));
        inspect(m.kits.size() - 1);
        if (oneIn(2)) {
            put(m.kits.size() - 1, gag());
        }
    }

    private void inspect(int k) {
        same("inspect(" + k + ")", () -> x.inspect(k), () -> m.inspect(k));
    }

    private void put(int k, int g) {
        same("put(" + k + ", " + g + ")", () -> x.put(k, g), () -> m.put(k, g));
    }

    private void anyGag() {
        int kind = kind();
        int p = person();
        int place = oneIn(6) ? number(0, 9) : place();
        int level = level();
        same("gag(" + kind + ", " + p + ", " + place + ", " + level + ")",
                () -> x.gag(kind, p, place, level), () -> m.gag(kind, p, place, level));
    }

    private void rehearse(int g) {
        same("rehearse(" + g + ")", () -> x.rehearse(g), () -> m.rehearse(g));
    }

    private void sign(int g, int s) {
        same("sign(" + g + ", " + s + ")", () -> x.sign(g, s), () -> m.sign(g, s));
    }

    private void arm(int g) {
        same("arm(" + g + ")", () -> x.arm(g), () -> m.arm(g));
    }

    /** Sees to it that runs come to armed gags often. */
    private void bringToArm(int g) {
        if (g < 0 || g >= m.gags.size()) {
            return;
        }
        for (int i = m.gags.get(g).step; i < 4; i++) {
            rehearse(g);
        }
        for (int s = 0; s < 3; s++) {
            sign(g, s);
        }
        arm(g);
    }

    private void anyCall() {
        switch (random.nextInt(28)) {
            case 0:
                if (oneIn(2)) {
                    anyPerson();
                }
                break;
            case 1:
                skill(person(), kind(), number(0, 9));
                break;
            case 2:
            case 3:
            case 4:
                walk(person(), place());
                break;
            case 5:
                if (oneIn(2)) {
                    anyKit();
                }
                break;
            case 6:
                inspect(kit());
                break;
            case 7:
                put(kit(), oneIn(3) ? -1 : gag());
                break;
            case 8:
                anyGag();
                break;
            case 9:
                anyChange();
                break;
            case 10:
                rehearse(gag());
                break;
            case 11:
                sign(gag(), number(0, 2));
                break;
            case 12:
                anyNo();
                break;
            case 13:
                arm(gag());
                break;
            case 14:
                anyDown();
                break;
            case 15:
            case 16:
                anyTake();
                break;
            case 17:
                anyWeather();
                break;
            case 18:
                anyPass();
                break;
            case 19:
                anyQuestion();
                break;
            case 20:
            case 21:
                strollThrough();
                break;
            default:
                bringToArm(gag());
                break;
        }
    }

    /** Somebody walks to an armed gag, and away again; then all gags are brought to be armed. */
    private void strollThrough() {
        int g = gag();
        int p = person();
        if (m.armedSet() == 0 || g < 0 || g >= m.gags.size() || p < 0 || p >= m.people.size()) {
            return;
        }
        int before = m.people.get(p).place;
        walk(p, m.gags.get(g).place);
        walk(p, before);
        for (int i = 0; i < m.gags.size(); i++) {
            bringToArm(i);
        }
    }

    private void anyChange() {
        int g = gag();
        int p = person();
        int place = place();
        int level = level();
        same("change(" + g + ", " + p + ", " + place + ", " + level + ")",
                () -> x.change(g, p, place, level), () -> m.change(g, p, place, level));
    }

    private void anyNo() {
        int p = person();
        int g = gag();
        boolean is = !oneIn(3);
        no(p, g, is);
        if (is && !oneIn(4)) {
            no(p, g, false);
        }
    }

    private void no(int p, int g, boolean is) {
        same("no(" + p + ", " + g + ", " + is + ")",
                () -> x.no(p, g, is) ? 1 : 0, () -> m.no(p, g, is));
    }

    private void anyDown() {
        int g = gag();
        same("down(" + g + ")", () -> x.down(g), () -> m.down(g));
    }

    private void anyTake() {
        int g = gag();
        if (oneIn(3) && g >= 0 && g < m.gags.size() && m.gags.get(g).armed) {
            skill(m.people.indexOf(m.gags.get(g).performer), m.gags.get(g).kind, 0);
        }
        same("take(" + g + ")", () -> x.take(g), () -> m.take(g));
    }

    private void anyWeather() {
        int wind = oneIn(3) ? number(0, 9) : number(0, 5);
        boolean isLight = !oneIn(5);
        same("weather(" + wind + ", " + isLight + ")",
                () -> x.weather(wind, isLight), () -> m.weather(wind, isLight));
    }

    private void anyPass() {
        int days = oneIn(4) ? number(1, 30) : number(1, 3);
        same("pass(" + days + ")", () -> x.pass(days), () -> m.pass(days));
    }

    private void anyQuestion() {
        int i = number(0, 11);
        int what = number(-1, 14);
        same("ofPerson(" + i + ", " + what + ")", () -> x.ofPerson(i, what), () -> m.ofPerson(i, what));
        same("ofKit(" + i + ", " + what + ")", () -> x.ofKit(i, what), () -> m.ofKit(i, what));
        same("ofGag(" + i + ", " + what + ")", () -> x.ofGag(i, what), () -> m.ofGag(i, what));
        same("ofKind(" + i + ", true)", () -> x.ofKind(i, true), () -> m.ofKind(i, true));
        same("many(" + what + ")", () -> x.many(what), () -> m.many(what));
        same("mostLevel(" + i + ")", () -> x.mostLevel(i), () -> m.mostLevel(i));
        same("bestPerformer(" + i + ")", () -> x.bestPerformer(i), () -> m.bestPerformer(i));
        same("needs(" + i + ")", () -> x.needs(i), () -> m.needs(i));
        same("safeFrom(" + i + ")", () -> x.safeFrom(i), () -> m.safeFrom(i));
    }
}
