/** Runs of calls that many tests begin with. */
final class Stage {
    private Stage() {
    }

    /**
     * Person 0 (the performer, skill 9 in each kind, at place 50) and person 1 (a medic at place 72);
     * no gag, no kit.
     */
    static Stuntledger crew() {
        Stuntledger x = new Stuntledger();
        x.person(false, false);
        x.person(false, true);
        for (int kind = 0; kind < 4; kind++) {
            x.skill(0, kind, 9);
        }
        x.walk(0, 50);
        x.walk(1, 72);
        return x;
    }

    /** The crew, and gag 0 of this kind and level by person 0 at place 50, ready to be armed. */
    static Stuntledger ready(int kind, int level) {
        Stuntledger x = crew();
        x.gag(kind, 0, 50, level);
        prepare(x, 0);
        return x;
    }

    /** The same, armed. */
    static Stuntledger armed(int kind, int level) {
        Stuntledger x = ready(kind, level);
        arm(x, 0);
        return x;
    }

    static void prepare(Stuntledger x, int gag) {
        for (int i = 0; i < 4; i++) {
            x.rehearse(gag);
        }
        for (int signer = 0; signer < 3; signer++) {
            x.sign(gag, signer);
        }
    }

    static void arm(Stuntledger x, int gag) {
        int bar = x.arm(gag);
        if (bar != 0) {
            throw new AssertionError("gag " + gag + " is barred by " + bar);
        }
    }

    static void prepareAndArm(Stuntledger x, int gag) {
        prepare(x, gag);
        arm(x, gag);
    }

    /** Lets rehearsals of this gag, which is beyond its performer, miss: each run up to a miss is one. */
    static void miss(Stuntledger x, int gag, int times) {
        int kind = x.ofGag(gag, 0);
        int due = x.ofKind(kind, false) + times;
        for (int i = 0; i < 5 * times && x.ofKind(kind, false) < due; i++) {
            x.rehearse(gag);
        }
        if (x.ofKind(kind, false) != due) {
            throw new AssertionError("gag " + gag + " did not miss");
        }
    }
}
