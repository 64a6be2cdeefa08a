import java.util.ArrayList;
import java.util.Comparator;
import java.util.List;
import java.util.Map;
import java.util.Set;
import java.util.TreeMap;
import java.util.TreeSet;
import java.util.function.IntPredicate;
import java.util.stream.IntStream;

/**
 * The document once more, written down sentence by sentence with sets and lists and without regard to
 * cost: ModelTest holds the class against it.
 */
final class Model {
    static final class Person {
        final int[] skill = new int[4];
        boolean minor;
        boolean medic;
        Integer hurtOn;
        int place;
        int tired;
        int pay;
        int took;
    }

    static final class Kit {
        int kind;
        int guard;
        int uses;
        Integer inspected;
        Gag gag;
    }

    static final class Gag {
        int kind;
        Person performer;
        int place;
        int level;
        int step;
        boolean armed;
        int taken;
        final Set<Integer> signers = new TreeSet<>();
        final Set<Person> no = new java.util.HashSet<>();
    }

    final List<Person> people = new ArrayList<>();
    final List<Kit> kits = new ArrayList<>();
    final List<Gag> gags = new ArrayList<>();
    final int[] care = new int[4];
    final int[] misses = new int[4];
    final List<Integer> margins = new ArrayList<>();
    /** How often each of the rarer ways of the document was gone: ModelTest asks that all were. */
    final Map<String, Integer> seen = new TreeMap<>();
    int day;
    int wind;
    boolean light = true;
    int hurts;
    int downs;

    private void saw(String what) {
        seen.merge(what, 1, Integer::sum);
    }

    // ---- terms

    int energy(Gag g, int level) {
        return new int[] {10 * level, level * level / 2, 6 * level + wind * level, 5 * level}[g.kind];
    }

    int energy(Gag g) {
        return energy(g, g.level);
    }

    int ring(Gag g) {
        return energy(g) / 15;
    }

    boolean fit(Kit k) {
        return k.uses >= 1
                && k.inspected != null
                && (k.inspected == day || k.inspected == day - 1 || k.inspected == day - 2);
    }

    List<Kit> guarding(Gag g) {
        return kits.stream().filter(k -> k.gag == g && k.kind == g.kind && fit(k)).toList();
    }

    int guard(Gag g) {
        return guarding(g).stream().mapToInt(k -> k.guard).sum();
    }

    int margin(Gag g, Person performer, int energy) {
        return guard(g) + performer.skill[g.kind] * 5 + 20 - energy - performer.tired / 2 - care[g.kind] * 5;
    }

    int margin(Gag g) {
        return margin(g, g.performer, energy(g));
    }

    boolean inRing(Person p, Gag g) {
        return g.performer != p && Math.abs(p.place - g.place) <= ring(g);
    }

    boolean sixHolds(Gag g, Person performer) {
        return performer.minor && (g.kind == 1 || energy(g) > 60);
    }

    boolean sevenHolds(Gag g) {
        return g.kind == 0 && wind > 7 || g.kind == 1 && wind > 4 || g.kind == 2 && wind > 6 || wind > 9;
    }

    boolean eightHolds(Gag g) {
        return !light && g.kind != 1;
    }

    boolean medicNear(Gag g) {
        return people.stream().anyMatch(p -> p.medic && p.hurtOn == null && p != g.performer
                && Math.abs(p.place - g.place) <= 25 && !inRing(p, g));
    }

    boolean elevenHolds(Gag g) {
        return gags.stream().anyMatch(o -> o != g && o.armed && Math.abs(o.place - g.place) <= ring(o) + ring(g));
    }

    int bars(Gag g) {
        boolean[] holds = {
            g.performer.hurtOn != null, !g.no.isEmpty(), g.step < 4, g.signers.size() < 3, margin(g) < 0,
            sixHolds(g, g.performer), sevenHolds(g), eightHolds(g), !medicNear(g),
            people.stream().anyMatch(p -> inRing(p, g)), elevenHolds(g)
        };
        for (int i = 0; i < holds.length; i++) {
            if (holds[i]) {
                saw("barred by " + (i + 1));
                return i + 1;
            }
        }
        return 0;
    }

    // ---- what comes of something

    void standDown(Gag g, String why) {
        if (g.armed) {
            saw("down: " + why);
            g.armed = false;
            downs++;
        }
    }

    void signaturesGone(Gag g, String why) {
        g.signers.clear();
        standDown(g, why);
    }

    void changed(Gag g, String why) {
        signaturesGone(g, why);
        if (g.step > 2) {
            g.step = 2;
        }
    }

    void miss(int kind) {
        misses[kind]++;
        if (misses[kind] % 3 == 0) {
            care[kind]++;
            gags.stream().filter(g -> g.kind == kind).forEach(g -> signaturesGone(g, "third miss"));
        }
    }

    int set(IntPredicate holds, int of) {
        return IntStream.range(0, of).filter(holds).map(i -> 1 << i).sum();
    }

    int armedSet() {
        return set(i -> gags.get(i).armed, gags.size());
    }

    // ---- arguments

    Person personOf(int i) {
        outsideUnless(0 <= i && i < people.size());
        return people.get(i);
    }

    Kit kitOf(int i) {
        outsideUnless(0 <= i && i < kits.size());
        return kits.get(i);
    }

    Gag gagOf(int i) {
        outsideUnless(0 <= i && i < gags.size());
        return gags.get(i);
    }

    static void outsideUnless(boolean ok) {
        if (!ok) {
            throw new IndexOutOfBoundsException();
        }
    }

    static void illegalUnless(boolean ok) {
        if (!ok) {
            throw new IllegalArgumentException();
        }
    }

    static void stateUnless(boolean ok) {
        if (!ok) {
            throw new IllegalStateException();
        }
    }

    static boolean in(int v, int least, int most) {
        return least <= v && v <= most;
    }

    // ---- the calls

    int person(boolean isMinor, boolean isMedic) {
        stateUnless(people.size() < 8);
        Person p = new Person();
        p.minor = isMinor;
        p.medic = isMedic;
        people.add(p);
        gags.stream().filter(g -> inRing(p, g)).forEach(g -> standDown(g, "one comes new"));
        return people.size() - 1;
    }

    int skill(int person, int kind, int skill) {
        Person p = personOf(person);
        outsideUnless(in(kind, 0, 3));
        illegalUnless(in(skill, 0, 9));
        int before = p.skill[kind];
        p.skill[kind] = skill;
        return before;
    }

    int walk(int person, int place) {
        Person p = personOf(person);
        illegalUnless(in(place, 0, 99));
        int before = armedSet();
        p.place = place;
        for (Gag g : gags) {
            if (g.armed && inRing(p, g)) {
                miss(g.kind);
                standDown(g, "a walk");
            }
        }
        if (Integer.bitCount(before & ~armedSet()) > 1) {
            saw("a walk stands several down");
        }
        return before & ~armedSet();
    }

    int kit(int kind, int guard, int uses) {
        outsideUnless(in(kind, 0, 3));
        illegalUnless(in(guard, 1, 90) && in(uses, 1, 5));
        stateUnless(kits.size() < 12);
        Kit k = new Kit();
        k.kind = kind;
        k.guard = guard;
        k.uses = uses;
        kits.add(k);
        return kits.size() - 1;
    }

    int inspect(int kit) {
        Kit k = kitOf(kit);
        int before = k.inspected == null ? -1 : k.inspected;
        k.inspected = day;
        return before;
    }

    int put(int kit, int gag) {
        Kit k = kitOf(kit);
        Gag g = gag == -1 ? null : gagOf(gag);
        stateUnless(k.gag != g);
        Gag before = k.gag;
        k.gag = g;
        if (before != null) {
            changed(before, "kit taken away");
        }
        if (g != null) {
            changed(g, "kit put");
        }
        return gags.indexOf(before);
    }

    int gag(int kind, int performer, int place, int level) {
        outsideUnless(in(kind, 0, 3));
        Person p = personOf(performer);
        illegalUnless(in(place, 0, 99) && in(level, 1, 30));
        stateUnless(gags.size() < 6);
        Gag g = new Gag();
        g.kind = kind;
        g.performer = p;
        g.place = place;
        g.level = level;
        gags.add(g);
        return gags.size() - 1;
    }

    int change(int gag, int performer, int place, int level) {
        Gag g = gagOf(gag);
        Person p = personOf(performer);
        illegalUnless(in(place, 0, 99) && in(level, 1, 30));
        int gone = g.signers.size();
        g.performer = p;
        g.place = place;
        g.level = level;
        changed(g, "change");
        return gone;
    }

    int rehearse(int gag) {
        Gag g = gagOf(gag);
        stateUnless(!g.armed && g.performer.hurtOn == null);
        int part = g.step == 4 ? 4 : g.step + 1;
        if (margin(g, g.performer, part * energy(g) / 4) >= 0) {
            g.step = part;
        } else {
            saw(g.signers.isEmpty() ? "miss unsigned" : "miss signed");
            g.step = 0;
            signaturesGone(g, "rehearsal");
            miss(g.kind);
        }
        if (g.performer.tired > 97) {
            saw("as tired as can be");
        }
        g.performer.tired = Math.min(100, g.performer.tired + 3);
        return g.step;
    }

    int sign(int gag, int signer) {
        Gag g = gagOf(gag);
        outsideUnless(in(signer, 0, 2));
        stateUnless(g.step == 4 && !g.signers.contains(signer));
        g.signers.add(signer);
        return g.signers.size();
    }

    int no(int person, int gag, boolean is) {
        Person p = personOf(person);
        Gag g = gagOf(gag);
        boolean wasArmed = g.armed;
        if (is) {
            g.no.add(p);
            standDown(g, "no");
        } else {
            g.no.remove(p);
        }
        return wasArmed && !g.armed ? 1 : 0;
    }

    int arm(int gag) {
        Gag g = gagOf(gag);
        stateUnless(!g.armed);
        int bar = bars(g);
        if (bar == 0) {
            g.armed = true;
            saw("armed: " + Integer.bitCount(armedSet()));
        }
        return bar;
    }

    int down(int gag) {
        Gag g = gagOf(gag);
        stateUnless(g.armed);
        standDown(g, "down");
        return Integer.bitCount(armedSet());
    }

    int take(int gag) {
        Gag g = gagOf(gag);
        stateUnless(g.armed);
        int margin = margin(g);
        g.armed = false;
        g.signers.clear();
        g.step = 3;
        g.taken++;
        g.performer.took++;
        margins.add(margin);
        List<Kit> used = guarding(g);
        if (margin < 0) {
            saw("hurt");
            g.performer.hurtOn = day;
            hurts++;
            gags.stream().filter(o -> o.performer == g.performer).forEach(o -> standDown(o, "hurt"));
        }
        used.forEach(k -> k.uses--);
        g.performer.tired = Math.min(100, g.performer.tired + energy(g) / 10);
        g.performer.pay += 50 + energy(g);
        for (Person p : people) {
            if (p.medic && Math.abs(p.place - g.place) <= 25) {
                saw(p.hurtOn != null ? "hurt medic near" : p == g.performer ? "performing medic paid" : "medic paid");
                p.pay += p.hurtOn == null ? 20 : 0;
            }
        }
        return margin;
    }

    int weather(int newWind, boolean isLight) {
        illegalUnless(in(newWind, 0, 9));
        int before = armedSet();
        wind = newWind;
        light = isLight;
        for (Gag g : gags) {
            if (sevenHolds(g)) {
                standDown(g, "wind");
            }
            if (eightHolds(g)) {
                standDown(g, "dark");
            }
            if (people.stream().anyMatch(p -> inRing(p, g))) {
                standDown(g, "the ring grows");
            }
        }
        return before & ~armedSet();
    }

    int pass(int days) {
        illegalUnless(in(days, 1, 30));
        stateUnless(armedSet() == 0);
        for (int i = 0; i < days; i++) {
            day++;
            for (Person p : people) {
                p.tired = Math.max(0, p.tired - 30);
                if (p.hurtOn != null && p.hurtOn <= day - 5) {
                    saw("healed");
                    p.hurtOn = null;
                }
            }
            for (int k = 0; k < 4; k++) {
                care[k] = Math.max(0, care[k] - 1);
            }
        }
        return day;
    }

    int ofPerson(int person, int what) {
        Person p = personOf(person);
        illegalUnless(in(what, 0, 11));
        if (what < 4) {
            return p.skill[what];
        }
        return new int[] {
            p.minor ? 1 : 0, p.medic ? 1 : 0, p.place, p.tired, p.hurtOn == null ? 0 : 1, p.pay, p.took,
            set(i -> inRing(p, gags.get(i)), gags.size())
        }[what - 4];
    }

    int ofKit(int kit, int what) {
        Kit k = kitOf(kit);
        illegalUnless(in(what, 0, 5));
        return new int[] {
            k.kind, k.guard, k.uses, k.inspected == null ? -1 : k.inspected, gags.indexOf(k.gag), fit(k) ? 1 : 0
        }[what];
    }

    int ofGag(int gag, int what) {
        Gag g = gagOf(gag);
        illegalUnless(in(what, 0, 13));
        return new int[] {
            g.kind, people.indexOf(g.performer), g.place, g.level, energy(g), ring(g), guard(g), margin(g), g.step,
            set(g.signers::contains, 3), set(i -> g.no.contains(people.get(i)), people.size()),
            g.armed ? 1 : 0, bars(g), g.taken
        }[what];
    }

    int ofKind(int kind, boolean isCare) {
        outsideUnless(in(kind, 0, 3));
        return (isCare ? care : misses)[kind];
    }

    int many(int what) {
        illegalUnless(in(what, 0, 13));
        return new int[] {
            day, wind, light ? 1 : 0, people.size(), kits.size(), (int) kits.stream().filter(this::fit).count(),
            gags.size(), armedSet(), IntStream.of(misses).sum(),
            (int) people.stream().filter(p -> p.hurtOn != null).count(), hurts, margins.size(),
            people.stream().mapToInt(p -> p.pay).sum(), downs
        }[what];
    }

    double meanMargin() {
        return margins.stream().mapToInt(m -> m).average().orElse(0);
    }

    int mostLevel(int gag) {
        Gag g = gagOf(gag);
        return IntStream.rangeClosed(1, 30)
                .filter(level -> margin(g, g.performer, energy(g, level)) >= 0)
                .max().orElse(-1);
    }

    int bestPerformer(int gag) {
        Gag g = gagOf(gag);
        return people.stream()
                .filter(p -> p.hurtOn == null && !sixHolds(g, p))
                .max(Comparator.<Person>comparingInt(p -> margin(g, p, energy(g)))
                        .thenComparingInt(p -> -people.indexOf(p)))
                .map(people::indexOf).orElse(-1);
    }

    int needs(int gag) {
        Gag g = gagOf(gag);
        List<Kit> free = kits.stream()
                .filter(k -> k.gag == null && k.kind == g.kind && fit(k))
                .sorted(Comparator.<Kit>comparingInt(k -> -k.guard).thenComparingInt(kits::indexOf))
                .toList();
        int set = 0;
        int margin = margin(g);
        for (Kit k : free) {
            if (margin < 0) {
                set += 1 << kits.indexOf(k);
                margin += k.guard;
            }
        }
        if (set != 0) {
            saw(margin < 0 ? "all are not enough" : Integer.bitCount(set) > 1 ? "needs several" : "needs one");
        }
        return margin < 0 ? 0 : set;
    }

    int safeFrom(int gag) {
        Gag g = gagOf(gag);
        return IntStream.rangeClosed(0, 99)
                .filter(place -> gags.stream()
                        .noneMatch(o -> (o == g || o.armed) && Math.abs(place - o.place) <= ring(o)))
                .map(place -> Math.abs(place - g.place))
                .min().orElse(-1);
    }

    long digest() {
        List<Integer> numbers = new ArrayList<>();
        IntStream.range(0, 14).forEach(w -> numbers.add(many(w)));
        for (int p = 0; p < people.size(); p++) {
            for (int w = 0; w < 12; w++) {
                numbers.add(ofPerson(p, w));
            }
        }
        for (int k = 0; k < kits.size(); k++) {
            for (int w = 0; w < 6; w++) {
                numbers.add(ofKit(k, w));
            }
        }
        for (int g = 0; g < gags.size(); g++) {
            for (int w = 0; w < 14; w++) {
                numbers.add(ofGag(g, w));
            }
            numbers.addAll(List.of(mostLevel(g), bestPerformer(g), needs(g), safeFrom(g)));
        }
        for (int k = 0; k < 4; k++) {
            numbers.addAll(List.of(care[k], misses[k]));
        }
        long d = 58230;
        for (int v : numbers) {
            d = d * 31 + v;
        }
        return d;
    }
}
