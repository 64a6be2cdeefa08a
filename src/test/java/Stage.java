/** Runs of calls that many tests begin with. */
final class Stage {
    private Stage() {
    }

    /**
     * Person 0 (the performer, skill 9 in each kind, at place 50) and person 1 (a medic at place 72);
     * no gag, no kit.
     */
    static Stuntledger crew() {
        Stuntledger x = new Stuntledger();
        x.person(false, false);
        x.person(false, true);
        for (int kind = 0; kind < 4; kind++) {
            x.skill(0, kind, 9);
        }
        x.walk(0, 50);
        x.walk(1, 72);
        return x;
    }

    /** The crew, and gag 0 of this kind and level by person 0 at place 50, ready to be armed. */
    static Stuntledger ready(int kind, int level) {
        Stuntledger x = crew();
        x.gag(kind, 0, 50, level);
        prepare(x, 0);
        return x;
    }

    /** The same, armed. */
    static Stuntledger armed(int kind, int level) {
        Stuntledger x = ready(kind, level);
        arm(x, 0);
        return x;
    }

    static void prepare(Stuntledger x, int gag) {
        for (int i = 0; i < 4; i++) {
            x.rehearse(gag);
        }
        for (int signer = 0; signer < 3; signer++) {
            x.sign(gag, signer);
        }
    }

    static void arm(Stuntledger x, int gag) {
        int bar = x.arm(gag);
        if (bar != 0) {
            throw new AssertionError("gag " + gag + " is barred by " + bar);
        }
    }

    static void prepareAndArm(Stuntledger x, int gag) {
        prepare(x, gag);
        arm(x, gag);
    }

    /** The same, whatever its step is by now: no more rehearsals than it needs. */
    static void prepareAndArmAgain(Stuntledger x, int gag) {
        for (int step = x.ofGag(gag, 8); step < 4; step++) {
            x.rehearse(gag);
        }
        for (int signer = 0; signer < 3; signer++) {
            x.sign(gag, signer);
        }
        arm(x, gag);
    }

    /** Lets rehearsals of this gag, which is beyond its performer, miss: each run up to a miss is one. */
    static void miss(Stuntledger x, int gag, int times) {
        int kind = x.ofGag(gag, 0);
        int due = x.ofKind(kind, false) + times;
        for (int i = 0; i < 5 * times && x.ofKind(kind, false) < due; i++) {
            x.rehearse(gag);
        }
        if (x.ofKind(kind, false) != due) {
            throw new AssertionError("gag " + gag + " did not miss");
        }
    }

    /** The crew, and gag 0 of this kind and level by person 0 at place 50, with a fit piece of this guard. */
    static Stuntledger guarded(int kind, int level, int guard) {
        Stuntledger x = crew();
        x.gag(kind, 0, 50, level);
        x.kit(kind, guard, 5);
        x.inspect(0);
        x.put(0, 0);
        return x;
    }

    /** Lets the gag's performer rehearse until so tired; the gag must be one that does not miss. */
    static void tire(Stuntledger x, int gag, int due) {
        int performer = x.ofGag(gag, 1);
        for (int i = 0; i < 40 && x.ofPerson(performer, 7) != due; i++) {
            x.rehearse(gag);
        }
        if (x.ofPerson(performer, 7) != due) {
            throw new AssertionError("the performer of gag " + gag + " can't be tired by " + due);
        }
    }

    /** 3 people, 2 pieces of kit, and 2 gags, of which gag 0 is armed; piece 0 is put to it. */
    static Stuntledger some() {
        Stuntledger x = guarded(0, 5, 10);
        x.person(true, false);
        x.kit(3, 20, 1);
        x.gag(3, 0, 90, 1);
        prepareAndArm(x, 0);
        return x;
    }

    /**
     * 8 people, 12 pieces of kit and 6 gags, none armed: gag 1 is at step 4 and has signature 1, gag 2 was
     * taken, gag 5's performer (person 7) is hurt, gag 0 may be armed; piece 0 is put to gag 0.
     */
    static Stuntledger full() {
        Stuntledger x = crew();
        for (int p = 2; p < 8; p++) {
            x.person(p == 6, false);
            x.walk(p, 99);
        }
        for (int g = 0; g < 6; g++) {
            x.gag(g % 4, g == 5 ? 7 : 0, g == 5 ? 60 : 50, g == 5 ? 6 : 2);
        }
        for (int k = 0; k < 12; k++) {
            x.kit(k % 4, 1 + k, 1 + k % 5);
        }
        x.put(0, 0);
        x.inspect(0);
        prepareAndArm(x, 2);
        x.take(2);
        x.skill(7, 1, 9);
        prepareAndArm(x, 5);
        x.skill(7, 1, 0);
        x.take(5);
        prepare(x, 0);
        for (int i = 0; i < 4; i++) {
            x.rehearse(1);
        }
        x.sign(1, 1);
        return x;
    }

    /** The full ledger, with gag 0 armed. */
    static Stuntledger fullAndArmed() {
        Stuntledger x = full();
        arm(x, 0);
        return x;
    }
}
