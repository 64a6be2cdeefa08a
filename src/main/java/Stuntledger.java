/**
 * Danger that is only shown: who does which gag, with which kit, and what bars it from being armed.
 *
 * <p>People, kit and gags stand in rows that the constructor makes once; a number is looked at against
 * the count of its row before it is used, so no place of a row is ever null or outside.
 */
public final class Stuntledger {
    private static final int NONE = -1;

    private static final int MOST_PEOPLE = 8;
    private static final int MOST_KIT = 12;
    private static final int MOST_GAGS = 6;
    private static final int KINDS = 4;
    private static final int SIGNERS = 3;

    private static final int FALLS = 0;
    private static final int FIRE = 1;
    private static final int CARS = 2;

    private static final int LAST_PLACE = 99;
    private static final int MOST_LEVEL = 30;
    private static final int MOST_SKILL = 9;
    private static final int MOST_WIND = 9;
    private static final int MOST_GUARD = 90;
    private static final int MOST_USES = 5;
    private static final int MOST_DAYS = 30;
    private static final int MOST_TIRED = 100;

    private static final int LAST_STEP = 4;
    private static final int STEP_WHEN_CHANGED = 2;
    private static final int STEP_WHEN_TAKEN = 3;
    private static final int MISSES_FOR_CARE = 3;
    private static final int TIRED_BY_REHEARSAL = 3;
    private static final int TIRED_LESS_A_DAY = 30;
    private static final int DAYS_FIT = 2;
    private static final int DAYS_HURT = 5;
    private static final int MEDIC_REACH = 25;
    private static final int MINOR_ENERGY = 60;
    private static final int PERFORMER_PAY = 50;
    private static final int MEDIC_PAY = 20;

    private static final int LAST_OF_PERSON = 11;
    private static final int LAST_OF_KIT = 5;
    private static final int LAST_OF_GAG = 13;
    private static final int LAST_OF_MANY = 13;
    private static final long DIGEST_START = 58230;

    /** The greatest wind that does not bar a gag, kind by kind. */
    private static final int[] WIND_LIMITS = {7, 4, 6, 9};

    private final Person[] people = new Person[MOST_PEOPLE];
    private final Piece[] pieces = new Piece[MOST_KIT];
    private final Gag[] gags = new Gag[MOST_GAGS];
    private int peopleCount = 0;
    private int pieceCount = 0;
    private int gagCount = 0;

    private final int[] care = new int[KINDS];
    private final int[] misses = new int[KINDS];
    private int day = 0;
    private int wind = 0;
    private boolean hasLight = true;

    private int hurtEver = 0;
    private int takenEver = 0;
    private int downEver = 0;
    private long marginsTaken = 0;

    private static final class Person {
        final int[] skills = new int[KINDS];
        boolean isMinor = false;
        boolean isMedic = false;
        boolean isHurt = false;
        int hurtDay = NONE;
        int place = 0;
        int tired = 0;
        int pay = 0;
        int tookCount = 0;
    }

    private static final class Piece {
        int kind = 0;
        int guard = 0;
        int uses = 0;
        int inspectedDay = NONE;
        int putTo = NONE;
    }

    private static final class Gag {
        int kind = 0;
        int performer = 0;
        int place = 0;
        int level = 0;
        int step = 0;
        int signatures = 0;
        int noes = 0;
        int takenCount = 0;
        boolean isArmed = false;
    }

    public Stuntledger() {
        for (int i = 0; i < MOST_PEOPLE; i++) {
            people[i] = new Person();
        }
        for (int i = 0; i < MOST_KIT; i++) {
            pieces[i] = new Piece();
        }
        for (int i = 0; i < MOST_GAGS; i++) {
            gags[i] = new Gag();
        }
    }

    // ---- people and kit

    public int person(boolean isMinor, boolean isMedic) throws IllegalStateException {
        if (peopleCount >= MOST_PEOPLE) {
            throw new IllegalStateException("there are 8 people");
        }
        int number = peopleCount;
        people[number].isMinor = isMinor;
        people[number].isMedic = isMedic;
        peopleCount++;
        standDownOccupied();
        return number;
    }

    public int skill(int person, int kind, int skill) throws IndexOutOfBoundsException, IllegalArgumentException {
        requirePerson(person);
        requireKind(kind);
        requireRange(skill, 0, MOST_SKILL);
        int before = people[person].skills[kind];
        people[person].skills[kind] = skill;
        return before;
    }

    public int walk(int person, int place) throws IndexOutOfBoundsException, IllegalArgumentException {
        requirePerson(person);
        requireRange(place, 0, LAST_PLACE);
        int before = armedSet();
        people[person].place = place;
        for (int g = 0; g < gagCount; g++) {
            // A miss at an earlier gag may have stood this one down: then it is no miss here.
            if (gags[g].isArmed && standsInRing(person, g)) {
                standDown(g);
                addMiss(gags[g].kind);
            }
        }
        return before & ~armedSet();
    }

    public int kit(int kind, int guard, int uses)
            throws IndexOutOfBoundsException, IllegalArgumentException, IllegalStateException {
        requireKind(kind);
        requireRange(guard, 1, MOST_GUARD);
        requireRange(uses, 1, MOST_USES);
        if (pieceCount >= MOST_KIT) {
            throw new IllegalStateException("there are 12 pieces of kit");
        }
        int number = pieceCount;
        pieces[number].kind = kind;
        pieces[number].guard = guard;
        pieces[number].uses = uses;
        pieceCount++;
        return number;
    }

    public int inspect(int kit) throws IndexOutOfBoundsException {
        requirePiece(kit);
        int before = pieces[kit].inspectedDay;
        pieces[kit].inspectedDay = day;
        return before;
    }

    public int put(int kit, int gag) throws IndexOutOfBoundsException, IllegalStateException {
        requirePiece(kit);
        if (gag != NONE) {
            requireGag(gag);
        }
        int before = pieces[kit].putTo;
        if (before == gag) {
            throw new IllegalStateException("it is put there already");
        }
        pieces[kit].putTo = gag;
        if (before != NONE) {
            becomeChanged(before);
        }
        if (gag != NONE) {
            becomeChanged(gag);
        }
        return before;
    }

    // ---- gags

    public int gag(int kind, int performer, int place, int level)
            throws IndexOutOfBoundsException, IllegalArgumentException, IllegalStateException {
        requireKind(kind);
        requirePerson(performer);
        requireRange(place, 0, LAST_PLACE);
        requireRange(level, 1, MOST_LEVEL);
        if (gagCount >= MOST_GAGS) {
            throw new IllegalStateException("there are 6 gags");
        }
        int number = gagCount;
        gags[number].kind = kind;
        gags[number].performer = performer;
        gags[number].place = place;
        gags[number].level = level;
        gagCount++;
        return number;
    }

    public int change(int gag, int performer, int place, int level)
            throws IndexOutOfBoundsException, IllegalArgumentException {
        requireGag(gag);
        requirePerson(performer);
        requireRange(place, 0, LAST_PLACE);
        requireRange(level, 1, MOST_LEVEL);
        int gone = Integer.bitCount(gags[gag].signatures);
        gags[gag].performer = performer;
        gags[gag].place = place;
        gags[gag].level = level;
        becomeChanged(gag);
        return gone;
    }

    public int rehearse(int gag) throws IndexOutOfBoundsException, IllegalStateException {
        requireGag(gag);
        Gag rehearsed = gags[gag];
        Person performer = people[rehearsed.performer];
        if (rehearsed.isArmed || performer.isHurt) {
            throw new IllegalStateException("it is armed, or the performer is hurt");
        }
        int next = Math.min(LAST_STEP, rehearsed.step + 1);
        int energyAtPart = next * energyOf(gag) / LAST_STEP;
        if (marginWithoutEnergy(gag) >= energyAtPart) {
            rehearsed.step = next;
        } else {
            rehearsed.step = 0;
            loseSignatures(gag);
            addMiss(rehearsed.kind);
        }
        tire(performer, TIRED_BY_REHEARSAL);
        return rehearsed.step;
    }

    public int sign(int gag, int signer) throws IndexOutOfBoundsException, IllegalStateException {
        requireGag(gag);
        if (signer < 0 || signer >= SIGNERS) {
            throw new IndexOutOfBoundsException("there is no such signer");
        }
        Gag signed = gags[gag];
        if (signed.step < LAST_STEP || isInSet(signed.signatures, signer)) {
            throw new IllegalStateException("its step is less than 4, or that one has signed");
        }
        signed.signatures |= 1 << signer;
        return Integer.bitCount(signed.signatures);
    }

    public boolean no(int person, int gag, boolean is) throws IndexOutOfBoundsException {
        requirePerson(person);
        requireGag(gag);
        if (!is) {
            gags[gag].noes &= ~(1 << person);
            return false;
        }
        gags[gag].noes |= 1 << person;
        boolean wasArmed = gags[gag].isArmed;
        standDown(gag);
        return wasArmed;
    }

    public int arm(int gag) throws IndexOutOfBoundsException, IllegalStateException {
        requireGag(gag);
        if (gags[gag].isArmed) {
            throw new IllegalStateException("it is armed");
        }
        int bar = whatBars(gag);
        gags[gag].isArmed = bar == 0;
        return bar;
    }

    public int down(int gag) throws IndexOutOfBoundsException, IllegalStateException {
        requireGag(gag);
        requireArmed(gag);
        standDown(gag);
        return Integer.bitCount(armedSet());
    }

    public int take(int gag) throws IndexOutOfBoundsException, IllegalStateException {
        requireGag(gag);
        requireArmed(gag);
        Gag taken = gags[gag];
        int margin = marginOf(gag);
        // Not armed any more ahead of all else: to be taken is not to be stood down.
        taken.isArmed = false;
        taken.signatures = 0;
        taken.step = STEP_WHEN_TAKEN;
        taken.takenCount++;
        takenEver++;
        marginsTaken += margin;
        if (margin < 0) {
            hurt(taken.performer);
        }
        useKitOf(gag);
        payFor(gag);
        return margin;
    }

    // ---- wind, light and days

    public int weather(int wind, boolean isLight) throws IllegalArgumentException {
        requireRange(wind, 0, MOST_WIND);
        int before = armedSet();
        this.wind = wind;
        hasLight = isLight;
        for (int g = 0; g < gagCount; g++) {
            if (windBars(g) || darkBars(g)) {
                standDown(g);
            }
        }
        standDownOccupied();
        return before & ~armedSet();
    }

    public int pass(int days) throws IllegalArgumentException, IllegalStateException {
        requireRange(days, 1, MOST_DAYS);
        if (armedSet() != 0) {
            throw new IllegalStateException("a gag is armed");
        }
        for (int i = 0; i < days; i++) {
            passOneDay();
        }
        return day;
    }

    // ---- what one asks

    public int ofPerson(int person, int what) throws IndexOutOfBoundsException, IllegalArgumentException {
        requirePerson(person);
        requireRange(what, 0, LAST_OF_PERSON);
        Person asked = people[person];
        switch (what) {
            case 4:
                return oneIf(asked.isMinor);
            case 5:
                return oneIf(asked.isMedic);
            case 6:
                return asked.place;
            case 7:
                return asked.tired;
            case 8:
                return oneIf(asked.isHurt);
            case 9:
                return asked.pay;
            case 10:
                return asked.tookCount;
            case 11:
                return ringsAround(person);
            default:
                return asked.skills[what];
        }
    }

    public int ofKit(int kit, int what) throws IndexOutOfBoundsException, IllegalArgumentException {
        requirePiece(kit);
        requireRange(what, 0, LAST_OF_KIT);
        Piece asked = pieces[kit];
        switch (what) {
            case 0:
                return asked.kind;
            case 1:
                return asked.guard;
            case 2:
                return asked.uses;
            case 3:
                return asked.inspectedDay;
            case 4:
                return asked.putTo;
            default:
                return oneIf(isFit(kit));
        }
    }

    public int ofGag(int gag, int what) throws IndexOutOfBoundsException, IllegalArgumentException {
        requireGag(gag);
        requireRange(what, 0, LAST_OF_GAG);
        Gag asked = gags[gag];
        switch (what) {
            case 0:
                return asked.kind;
            case 1:
                return asked.performer;
            case 2:
                return asked.place;
            case 3:
                return asked.level;
            case 4:
                return energyOf(gag);
            case 5:
                return ringOf(gag);
            case 6:
                return guardOf(gag);
            case 7:
                return marginOf(gag);
            case 8:
                return asked.step;
            case 9:
                return asked.signatures;
            case 10:
                return asked.noes;
            case 11:
                return oneIf(asked.isArmed);
            case 12:
                return whatBars(gag);
            default:
                return asked.takenCount;
        }
    }

    public int ofKind(int kind, boolean isCare) throws IndexOutOfBoundsException {
        requireKind(kind);
        return isCare ? care[kind] : misses[kind];
    }

    public int many(int what) throws IllegalArgumentException {
        requireRange(what, 0, LAST_OF_MANY);
        switch (what) {
            case 0:
                return day;
            case 1:
                return wind;
            case 2:
                return oneIf(hasLight);
            case 3:
                return peopleCount;
            case 4:
                return pieceCount;
            case 5:
                return fitCount();
            case 6:
                return gagCount;
            case 7:
                return armedSet();
            case 8:
                return missesOfAll();
            case 9:
                return hurtCount();
            case 10:
                return hurtEver;
            case 11:
                return takenEver;
            case 12:
                return payOfAll();
            default:
                return downEver;
        }
    }

    public double meanMargin() {
        return takenEver == 0 ? 0 : (double) marginsTaken / takenEver;
    }

    // ---- what would be (nothing is changed)

    public int mostLevel(int gag) throws IndexOutOfBoundsException {
        requireGag(gag);
        int mostEnergy = marginWithoutEnergy(gag);
        for (int level = MOST_LEVEL; level >= 1; level--) {
            if (energyAt(gags[gag].kind, level) <= mostEnergy) {
                return level;
            }
        }
        return NONE;
    }

    public int bestPerformer(int gag) throws IndexOutOfBoundsException {
        requireGag(gag);
        int best = NONE;
        int bestShare = 0;
        for (int p = 0; p < peopleCount; p++) {
            if (people[p].isHurt || isTooYoung(p, gag)) {
                continue;
            }
            // All else of the margin is the same for each performer.
            int share = performersShare(p, gags[gag].kind);
            if (best == NONE || share > bestShare) {
                best = p;
                bestShare = share;
            }
        }
        return best;
    }

    public int needs(int gag) throws IndexOutOfBoundsException {
        requireGag(gag);
        int margin = marginOf(gag);
        int chosen = 0;
        for (int i = 0; i < pieceCount && margin < 0; i++) {
            int best = bestFreePiece(gags[gag].kind, chosen);
            if (best == NONE) {
                return 0;
            }
            chosen |= 1 << best;
            margin += pieces[best].guard;
        }
        return margin < 0 ? 0 : chosen;
    }

    public int safeFrom(int gag) throws IndexOutOfBoundsException {
        requireGag(gag);
        int place = gags[gag].place;
        for (int away = ringOf(gag) + 1; away <= LAST_PLACE; away++) {
            if (isClearPlace(place - away) || isClearPlace(place + away)) {
                return away;
            }
        }
        return NONE;
    }

    public long digest() {
        long d = DIGEST_START;
        for (int what = 0; what <= LAST_OF_MANY; what++) {
            d = mixed(d, many(what));
        }
        for (int p = 0; p < peopleCount; p++) {
            for (int what = 0; what <= LAST_OF_PERSON; what++) {
                d = mixed(d, ofPerson(p, what));
            }
        }
        for (int k = 0; k < pieceCount; k++) {
            for (int what = 0; what <= LAST_OF_KIT; what++) {
                d = mixed(d, ofKit(k, what));
            }
        }
        for (int g = 0; g < gagCount; g++) {
            for (int what = 0; what <= LAST_OF_GAG; what++) {
                d = mixed(d, ofGag(g, what));
            }
            d = mixed(mixed(d, mostLevel(g)), bestPerformer(g));
            d = mixed(mixed(d, needs(g)), safeFrom(g));
        }
        for (int kind = 0; kind < KINDS; kind++) {
            d = mixed(mixed(d, ofKind(kind, true)), ofKind(kind, false));
        }
        return d;
    }

    private static long mixed(long d, int v) {
        return d * 31 + v;
    }

    // ---- what a call asks of its arguments

    private void requirePerson(int person) {
        if (person < 0 || person >= peopleCount) {
            throw new IndexOutOfBoundsException("there is no such person");
        }
    }

    private void requirePiece(int kit) {
        if (kit < 0 || kit >= pieceCount) {
            throw new IndexOutOfBoundsException("there is no such piece of kit");
        }
    }

    private void requireGag(int gag) {
        if (gag < 0 || gag >= gagCount) {
            throw new IndexOutOfBoundsException("there is no such gag");
        }
    }

    private static void requireKind(int kind) {
        if (kind < 0 || kind >= KINDS) {
            throw new IndexOutOfBoundsException("there is no such kind");
        }
    }

    private static void requireRange(int value, int least, int most) {
        if (value < least || value > most) {
            throw new IllegalArgumentException("a number is outside its range");
        }
    }

    private void requireArmed(int gag) {
        if (!gags[gag].isArmed) {
            throw new IllegalStateException("it is not armed");
        }
    }

    // ---- energy, ring, guard and margin

    private int energyAt(int kind, int level) {
        switch (kind) {
            case FALLS:
                return 10 * level;
            case FIRE:
                return level * level / 2;
            case CARS:
                return 6 * level + wind * level;
            default:
                return 5 * level;
        }
    }

    private int energyOf(int gag) {
        return energyAt(gags[gag].kind, gags[gag].level);
    }

    private int ringOf(int gag) {
        return energyAt(gags[gag].kind, gags[gag].level) / 15;
    }

    private int guardOf(int gag) {
        int guard = 0;
        for (int k = 0; k < pieceCount; k++) {
            if (guards(k, gag)) {
                guard += pieces[k].guard;
            }
        }
        return guard;
    }

    private boolean guards(int kit, int gag) {
        return pieces[kit].putTo == gag && pieces[kit].kind == gags[gag].kind && isFit(kit);
    }

    private boolean isFit(int kit) {
        Piece piece = pieces[kit];
        return piece.uses > 0 && piece.inspectedDay != NONE && day - piece.inspectedDay <= DAYS_FIT;
    }

    private int marginOf(int gag) {
        return guardOf(gag) + performersShare(gags[gag].performer, gags[gag].kind) - energyOf(gag);
    }

    private int marginWithoutEnergy(int gag) {
        return marginOf(gag) + energyOf(gag);
    }

    /** What a margin would be with this performer, but for guard and energy. */
    private int performersShare(int performer, int kind) {
        Person who = people[performer];
        return 5 * who.skills[kind] + 20 - who.tired / 2 - 5 * care[kind];
    }

    // ---- places

    private static int distance(int placeA, int placeB) {
        return Math.abs(placeA - placeB);
    }

    private boolean standsInRing(int person, int gag) {
        return person != gags[gag].performer
                && distance(people[person].place, gags[gag].place) <= ringOf(gag);
    }

    private boolean isOccupied(int gag) {
        for (int p = 0; p < peopleCount; p++) {
            if (standsInRing(p, gag)) {
                return true;
            }
        }
        return false;
    }

    private int ringsAround(int person) {
        int set = 0;
        for (int g = 0; g < gagCount; g++) {
            if (standsInRing(person, g)) {
                set |= 1 << g;
            }
        }
        return set;
    }

    private boolean isClearPlace(int place) {
        if (place < 0 || place > LAST_PLACE) {
            return false;
        }
        for (int g = 0; g < gagCount; g++) {
            if (gags[g].isArmed && distance(place, gags[g].place) <= ringOf(g)) {
                return false;
            }
        }
        return true;
    }

    private boolean isReadyMedic(int person, int gag) {
        return people[person].isMedic
                && !people[person].isHurt
                && distance(people[person].place, gags[gag].place) <= MEDIC_REACH;
    }

    // ---- what bars a gag

    private int whatBars(int gag) {
        if (people[gags[gag].performer].isHurt) {
            return 1;
        }
        if (gags[gag].noes != 0) {
            return 2;
        }
        if (gags[gag].step < LAST_STEP) {
            return 3;
        }
        if (Integer.bitCount(gags[gag].signatures) < SIGNERS) {
            return 4;
        }
        if (marginOf(gag) < 0) {
            return 5;
        }
        if (isTooYoung(gags[gag].performer, gag)) {
            return 6;
        }
        if (windBars(gag)) {
            return 7;
        }
        if (darkBars(gag)) {
            return 8;
        }
        if (!hasMedicAtHand(gag)) {
            return 9;
        }
        if (isOccupied(gag)) {
            return 10;
        }
        return isNearArmed(gag) ? 11 : 0;
    }

    private boolean isTooYoung(int performer, int gag) {
        return people[performer].isMinor && (gags[gag].kind == FIRE || energyOf(gag) > MINOR_ENERGY);
    }

    private boolean windBars(int gag) {
        return wind > WIND_LIMITS[gags[gag].kind];
    }

    private boolean darkBars(int gag) {
        return !hasLight && gags[gag].kind != FIRE;
    }

    private boolean hasMedicAtHand(int gag) {
        int ring = ringOf(gag);
        for (int p = 0; p < peopleCount; p++) {
            if (p != gags[gag].performer
                    && isReadyMedic(p, gag)
                    && distance(people[p].place, gags[gag].place) > ring) {
                return true;
            }
        }
        return false;
    }

    private boolean isNearArmed(int gag) {
        for (int g = 0; g < gagCount; g++) {
            if (g != gag
                    && gags[g].isArmed
                    && distance(gags[g].place, gags[gag].place) <= ringOf(g) + ringOf(gag)) {
                return true;
            }
        }
        return false;
    }

    // ---- what comes of a call

    private void standDown(int gag) {
        if (gags[gag].isArmed) {
            gags[gag].isArmed = false;
            downEver++;
        }
    }

    private void standDownOccupied() {
        for (int g = 0; g < gagCount; g++) {
            if (isOccupied(g)) {
                standDown(g);
            }
        }
    }

    private void loseSignatures(int gag) {
        gags[gag].signatures = 0;
        standDown(gag);
    }

    private void becomeChanged(int gag) {
        loseSignatures(gag);
        gags[gag].step = Math.min(STEP_WHEN_CHANGED, gags[gag].step);
    }

    private void addMiss(int kind) {
        misses[kind]++;
        if (misses[kind] % MISSES_FOR_CARE != 0) {
            return;
        }
        care[kind]++;
        for (int g = 0; g < gagCount; g++) {
            if (gags[g].kind == kind) {
                loseSignatures(g);
            }
        }
    }

    private static void tire(Person who, int more) {
        who.tired = Math.min(MOST_TIRED, who.tired + more);
    }

    private void hurt(int person) {
        people[person].isHurt = true;
        people[person].hurtDay = day;
        hurtEver++;
        for (int g = 0; g < gagCount; g++) {
            if (gags[g].performer == person) {
                standDown(g);
            }
        }
    }

    private void useKitOf(int gag) {
        for (int k = 0; k < pieceCount; k++) {
            if (guards(k, gag)) {
                pieces[k].uses--;
            }
        }
    }

    private void payFor(int gag) {
        int energy = energyOf(gag);
        Person performer = people[gags[gag].performer];
        tire(performer, energy / 10);
        performer.pay += PERFORMER_PAY + energy;
        performer.tookCount++;
        for (int p = 0; p < peopleCount; p++) {
            if (isReadyMedic(p, gag)) {
                people[p].pay += MEDIC_PAY;
            }
        }
    }

    private void passOneDay() {
        day++;
        for (int p = 0; p < peopleCount; p++) {
            Person who = people[p];
            who.tired = Math.max(0, who.tired - TIRED_LESS_A_DAY);
            if (who.isHurt && day - who.hurtDay >= DAYS_HURT) {
                who.isHurt = false;
            }
        }
        for (int kind = 0; kind < KINDS; kind++) {
            care[kind] = Math.max(0, care[kind] - 1);
        }
    }

    // ---- sets and counts

    private static int oneIf(boolean is) {
        return is ? 1 : 0;
    }

    private static boolean isInSet(int set, int number) {
        return (set & (1 << number)) != 0;
    }

    private int armedSet() {
        int set = 0;
        for (int g = 0; g < gagCount; g++) {
            if (gags[g].isArmed) {
                set |= 1 << g;
            }
        }
        return set;
    }

    private int fitCount() {
        int count = 0;
        for (int k = 0; k < pieceCount; k++) {
            count += oneIf(isFit(k));
        }
        return count;
    }

    private int hurtCount() {
        int count = 0;
        for (int p = 0; p < peopleCount; p++) {
            count += oneIf(people[p].isHurt);
        }
        return count;
    }

    private int payOfAll() {
        int pay = 0;
        for (int p = 0; p < peopleCount; p++) {
            pay += people[p].pay;
        }
        return pay;
    }

    private int missesOfAll() {
        int count = 0;
        for (int kind = 0; kind < KINDS; kind++) {
            count += misses[kind];
        }
        return count;
    }

    /** The free fit piece of a kind with the greatest guard that is not chosen yet; NONE without one. */
    private int bestFreePiece(int kind, int chosen) {
        int best = NONE;
        for (int k = 0; k < pieceCount; k++) {
            boolean isFree = pieces[k].kind == kind && pieces[k].putTo == NONE && isFit(k) && !isInSet(chosen, k);
            if (isFree && (best == NONE || pieces[k].guard > pieces[best].guard)) {
                best = k;
            }
        }
        return best;
    }
}
