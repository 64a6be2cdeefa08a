/** "== 3. Armed": the edges of what a take() leaves, and of a DAY that goes by; one sentence at a time. */
public final class TakeAndDaysEdgesTest {
    private static final Check CHECK = new Check("TakeAndDaysEdgesTest");

    public static void main(String[] args) {
        marginOfNoneAndBelow();
        marginAsItWasAhead();
        stepAndSignatures();
        usesOfWhatIsFit();
        payOfTheLeastAndTheGreatest();
        payOfMedicsWithinReach();
        payOfMedicsAtTheLastPlaces();
        payOfMedicsInTheRing();
        payOfAPerformingMedic();
        payOfAHurtMedic();
        payOfThoseHurtBehindIt();
        howOftenTaken();
        meanOfTheTaken();
        daysFromOneToThirty();
        daysWithWhatIsArmed();
        daysOneByOneOrAtOnce();
        careFromNone();
        hurtForFiveDays();
        hurtAgain();
        dayWithoutAnybody();
        CHECK.end();
    }

    /** "With a MARGIN below 0 the PERFORMER is HURT": at 0 and at 1 not, at -1 yes. Falls of level 7. */
    private static void marginOfNoneAndBelow() {
        for (int margin = -2; margin <= 1; margin++) {
            Stuntledger x = Stage.guarded(0, 7, 31 + margin);
            Stage.prepareAndArm(x, 0);
            x.skill(0, 0, 5);
            CHECK.due("MARGIN", x.ofGag(0, 7), margin);
            CHECK.due("take()", x.take(0), margin);
            CHECK.due("HURT behind " + margin, x.ofPerson(0, 8), margin < 0 ? 1 : 0);
            CHECK.due("PEOPLE that are HURT behind " + margin, x.many(9), margin < 0 ? 1 : 0);
            CHECK.due("HURT ever behind " + margin, x.many(10), margin < 0 ? 1 : 0);
            CHECK.due("what bars it behind " + margin, x.ofGag(0, 12), margin < 0 ? 1 : 3);
            CHECK.due("mean MARGIN behind " + margin, x.meanMargin(), (double) margin);
            CHECK.due("PAY behind " + margin, x.ofPerson(0, 9), 120);
            CHECK.due("USES behind " + margin, x.ofKit(0, 2), 4);
            CHECK.due("TIRED behind " + margin, x.ofPerson(0, 7), 19);
        }
    }

    /** "(by what was there ahead of it)": the last use guards, and the tiredness that it brings does not count yet. */
    private static void marginAsItWasAhead() {
        Stuntledger x = Stage.crew();
        x.gag(0, 0, 50, 7);
        x.kit(0, 11, 1);
        x.inspect(0);
        x.put(0, 0);
        Stage.prepareAndArm(x, 0);
        CHECK.due("take() with 0", x.take(0), 0);
        CHECK.due("HURT", x.ofPerson(0, 8), 0);
        CHECK.due("USES", x.ofKit(0, 2), 0);
        CHECK.due("MARGIN behind that", x.ofGag(0, 7), 45 + 20 - 70 - 19 / 2);
    }

    private static void stepAndSignatures() {
        Stuntledger x = Stage.armed(0, 3);
        x.take(0);
        CHECK.due("STEP", x.ofGag(0, 8), 3);
        CHECK.due("SIGNATURES", x.ofGag(0, 9), 0);
        CHECK.due("ARMED", x.ofGag(0, 11), 0);
        CHECK.due("stood DOWN", x.many(13), 0);
        CHECK.due("change() then", x.change(0, 0, 50, 3), 0);
        CHECK.due("STEP", x.ofGag(0, 8), 2);
    }

    /** "all FIT KIT of its KIND that is put to it has 1 of USES less (that does not CHANGE it)". */
    private static void usesOfWhatIsFit() {
        Stuntledger x = Stage.crew();
        x.gag(0, 0, 50, 1);
        x.gag(0, 0, 90, 1);
        // Fit and put to it; of another kind; not inspected; put to another; put to none; used up by then.
        int[][] kindUsesPutInspected = {{0, 5, 0, 1}, {1, 5, 0, 1}, {0, 5, 0, 0}, {0, 5, 1, 1}, {0, 5, -1, 1}, {0, 1, 0, 1}};
        for (int k = 0; k < 6; k++) {
            int[] c = kindUsesPutInspected[k];
            x.kit(c[0], 10, c[1]);
            if (c[2] >= 0) {
                x.put(k, c[2]);
            }
            if (c[3] == 1) {
                x.inspect(k);
            }
        }
        int[][] uses = {{4, 5, 5, 5, 5, 0}, {3, 5, 5, 5, 5, 0}};
        for (int take = 0; take < 2; take++) {
            for (int i = x.ofGag(0, 8); i < 4; i++) {
                x.rehearse(0);
            }
            for (int signer = 0; signer < 3; signer++) {
                x.sign(0, signer);
            }
            Stage.arm(x, 0);
            x.take(0);
            for (int k = 0; k < 6; k++) {
                CHECK.due("USES of piece " + k + " behind take() " + (take + 1), x.ofKit(k, 2), uses[take][k]);
            }
            CHECK.due("STEP is not that of what is CHANGED", x.ofGag(0, 8), 3);
        }
    }

    /** "PAY of the PERFORMER is 50 and ENERGY more": of no energy, and of the greatest that may be armed. */
    private static void payOfTheLeastAndTheGreatest() {
        Stuntledger x = Stage.armed(1, 1);
        x.take(0);
        CHECK.due("PAY for no ENERGY", x.ofPerson(0, 9), 50);
        CHECK.due("TIRED by no ENERGY", x.ofPerson(0, 7), 12);
        Stuntledger y = Stage.crew();
        y.gag(1, 0, 50, 27);
        for (int k = 0; k < 4; k++) {
            y.kit(1, 90, 5);
            y.inspect(k);
            y.put(k, 0);
        }
        y.walk(1, 75);
        Stage.prepareAndArm(y, 0);
        CHECK.due("take() of ENERGY 364", y.take(0), 360 + 45 + 20 - 364 - 6);
        CHECK.due("PAY for ENERGY 364", y.ofPerson(0, 9), 414);
        CHECK.due("TIRED by ENERGY 364", y.ofPerson(0, 7), 12 + 36);
        CHECK.due("all PAY", y.many(12), 434);
    }

    /** "of each MEDIC within 25 PLACES of the GAG who is not HURT 20 more": 25 places on either side, no further. */
    private static void payOfMedicsWithinReach() {
        int[][] placePay = {{24, 0}, {25, 20}, {26, 20}, {74, 20}, {75, 20}, {76, 0}, {0, 0}, {99, 0}};
        for (int[] c : placePay) {
            Stuntledger x = Stage.crew();
            x.gag(0, 0, 50, 5);
            x.person(false, true);
            x.person(false, false);
            x.walk(2, c[0]);
            x.walk(3, 60);
            Stage.prepareAndArm(x, 0);
            x.take(0);
            CHECK.due("PAY of a MEDIC at " + c[0], x.ofPerson(2, 9), c[1]);
            CHECK.due("PAY of the other MEDIC", x.ofPerson(1, 9), 20);
            CHECK.due("PAY of one who is no MEDIC", x.ofPerson(3, 9), 0);
            CHECK.due("all PAY", x.many(12), 120 + c[1]);
        }
    }

    private static void payOfMedicsAtTheLastPlaces() {
        int[][] gagMedicPay = {{0, 25, 20}, {0, 26, 0}, {25, 0, 20}, {26, 0, 0}, {99, 74, 20}, {99, 73, 0}, {74, 99, 20}, {73, 99, 0}};
        for (int[] c : gagMedicPay) {
            Stuntledger x = Stage.crew();
            x.gag(0, 0, c[0], 3);
            x.walk(1, c[0] < 50 ? c[0] + 10 : c[0] - 10);
            Stage.prepareAndArm(x, 0);
            x.walk(1, c[1]);
            x.take(0);
            CHECK.due("PAY of a MEDIC at " + c[1] + ", the GAG at " + c[0], x.ofPerson(1, 9), c[2]);
            CHECK.due("PAY of the PERFORMER", x.ofPerson(0, 9), 80);
        }
    }

    /** Nearest to it without standing in its ring; and a medic who is gone by then is not paid. */
    private static void payOfMedicsInTheRing() {
        Stuntledger x = Stage.armed(0, 5);
        x.walk(1, 54);
        x.take(0);
        CHECK.due("PAY of a MEDIC right beside the RING", x.ofPerson(1, 9), 20);
        Stage.prepareAndArmAgain(x, 0);
        x.walk(1, 0);
        x.take(0);
        CHECK.due("PAY of a MEDIC who has walked away", x.ofPerson(1, 9), 20);
        CHECK.due("PAY of the PERFORMER", x.ofPerson(0, 9), 200);
    }

    /** "(the PERFORMER, too, if that is one)": from the performer's own place, which may be anywhere. */
    private static void payOfAPerformingMedic() {
        int[][] placePay = {{50, 120}, {25, 120}, {24, 100}, {75, 120}, {76, 100}, {0, 100}, {99, 100}};
        for (int[] c : placePay) {
            Stuntledger x = Stage.crew();
            x.person(false, true);
            x.skill(2, 0, 9);
            x.gag(0, 2, 50, 5);
            x.walk(0, 99);
            Stage.prepareAndArm(x, 0);
            x.walk(2, c[0]);
            CHECK.due("take() by a MEDIC at " + c[0], x.take(0), 9);
            CHECK.due("PAY of a MEDIC who performs, at " + c[0], x.ofPerson(2, 9), c[1]);
            CHECK.due("PAY of the other MEDIC", x.ofPerson(1, 9), 20);
        }
    }

    /** A MEDIC who is HURT already is not paid, and is again on the fifth DAY. */
    private static void payOfAHurtMedic() {
        for (int days = 0; days <= 5; days++) {
            Stuntledger x = Stage.crew();
            x.person(false, true);
            x.skill(2, 0, 9);
            x.walk(2, 60);
            x.gag(0, 2, 90, 3);
            x.gag(0, 0, 50, 3);
            Stage.prepareAndArm(x, 0);
            x.skill(2, 0, 0);
            CHECK.due("take() that hurts the MEDIC", x.take(0), 20 - 30 - 6);
            CHECK.due("PAY of the MEDIC who performs, is 30 places away and HURT", x.ofPerson(2, 9), 80);
            if (days > 0) {
                x.pass(days);
            }
            Stage.prepareAndArm(x, 1);
            x.take(1);
            CHECK.due("PAY of a MEDIC HURT " + days + " DAYS ago", x.ofPerson(2, 9), days < 5 ? 80 : 100);
        }
    }

    /** "who is not HURT behind that": the performer, a MEDIC, who is hurt by the very take() is not paid as one. */
    private static void payOfThoseHurtBehindIt() {
        for (int skill = 0; skill <= 9; skill += 9) {
            Stuntledger x = Stage.crew();
            x.person(false, true);
            x.skill(2, 0, 9);
            x.walk(2, 50);
            x.walk(0, 99);
            x.gag(0, 2, 50, 5);
            Stage.prepareAndArm(x, 0);
            x.skill(2, 0, skill);
            x.take(0);
            CHECK.due("HURT", x.ofPerson(2, 8), skill == 0 ? 1 : 0);
            CHECK.due("PAY of a MEDIC who performs, with SKILL " + skill, x.ofPerson(2, 9), skill == 0 ? 100 : 120);
        }
    }

    private static void howOftenTaken() {
        Stuntledger x = Stage.crew();
        x.gag(3, 0, 50, 1);
        x.gag(3, 0, 90, 1);
        x.gag(3, 1, 20, 1);
        for (int i = 0; i < 3; i++) {
            CHECK.due("TAKEN", x.ofGag(0, 13), i);
            CHECK.due("TAKEN of another", x.ofGag(1, 13), 0);
            CHECK.due("TOOK", x.ofPerson(0, 10), i);
            CHECK.due("TOOK of another", x.ofPerson(1, 10), 0);
            CHECK.due("TAKEN ever", x.many(11), i);
            Stage.prepareAndArmAgain(x, 0);
            x.take(0);
            x.pass(1);
        }
        x.change(0, 1, 50, 1);
        CHECK.due("TAKEN behind change()", x.ofGag(0, 13), 3);
        CHECK.due("TOOK of who was the PERFORMER", x.ofPerson(0, 10), 3);
        CHECK.due("TOOK of who is", x.ofPerson(1, 10), 0);
    }

    /** "the mean MARGIN at which GAGS were TAKEN, not cut; 0 without any". */
    private static void meanOfTheTaken() {
        Stuntledger x = Stage.guarded(0, 7, 30);
        CHECK.due("mean MARGIN without any", x.meanMargin(), 0.0);
        Stage.prepareAndArm(x, 0);
        CHECK.due("mean MARGIN of what is ARMED alone", x.meanMargin(), 0.0);
        x.down(0);
        CHECK.due("mean MARGIN of what was stood DOWN", x.meanMargin(), 0.0);
        Stage.arm(x, 0);
        x.skill(0, 0, 5);
        CHECK.due("take() with -1", x.take(0), -1);
        CHECK.due("mean MARGIN of -1", x.meanMargin(), -1.0);
        double[] means = {(4 - 1) / 2.0, (4 + 4 - 1) / 3.0};
        for (int i = 0; i < 2; i++) {
            x.pass(30);
            x.inspect(0);
            x.skill(0, 0, 9);
            Stage.prepareAndArmAgain(x, 0);
            x.skill(0, 0, 5);
            CHECK.due("take() by one TIRED by 3", x.take(0), 4);
            CHECK.due("mean MARGIN of " + (i + 2), x.meanMargin(), means[i]);
        }
    }

    /** "if days is not 1 to 30" */
    private static void daysFromOneToThirty() {
        Stuntledger x = new Stuntledger();
        CHECK.illegal(x, "pass(0)", () -> x.pass(0));
        CHECK.due("pass(1)", x.pass(1), 1);
        CHECK.illegal(x, "pass(31)", () -> x.pass(31));
        CHECK.due("pass(30)", x.pass(30), 31);
        int day = 31;
        for (int days = 1; days <= 30; days++) {
            day += days;
            CHECK.due("pass(" + days + ")", x.pass(days), day);
            CHECK.due("DAY", x.many(0), day);
        }
        for (int i = 1; i <= 400; i++) {
            CHECK.due("pass(30) again", x.pass(30), day + 30 * i);
        }
    }

    /** "A DAY goes by, as nothing is ARMED": refused with any of them, and wrong days are told of first. */
    private static void daysWithWhatIsArmed() {
        for (int g = 0; g < 6; g++) {
            Stuntledger x = Stage.crew();
            for (int i = 0; i < 6; i++) {
                x.gag(0, 0, 50, 1);
            }
            int armed = g;
            Stage.prepareAndArm(x, g);
            CHECK.state(x, "pass(1) with " + armed + " ARMED", () -> x.pass(1));
            CHECK.state(x, "pass(30) with " + armed + " ARMED", () -> x.pass(30));
            CHECK.illegal(x, "pass(0) with " + armed + " ARMED", () -> x.pass(0));
            CHECK.illegal(x, "pass(31) with " + armed + " ARMED", () -> x.pass(31));
            CHECK.due("TIRED behind all that", x.ofPerson(0, 7), 12);
            x.down(g);
            CHECK.due("pass(1) behind down()", x.pass(1), 1);
            CHECK.due("SIGNATURES a DAY later", x.ofGag(g, 9), 7);
            CHECK.due("STEP a DAY later", x.ofGag(g, 8), 4);
        }
    }

    private static Stuntledger tiredCarefulAndHurt() {
        Stuntledger x = Stage.armed(0, 5);
        x.gag(3, 1, 99, 30);
        x.gag(2, 1, 99, 30);
        Stage.miss(x, 1, 12);
        Stage.miss(x, 2, 7);
        x.kit(0, 10, 5);
        x.inspect(0);
        x.skill(0, 0, 0);
        x.take(0);
        return x;
    }

    /** Days that go by at once are the same as days one by one. */
    private static void daysOneByOneOrAtOnce() {
        for (int days = 1; days <= 30; days++) {
            Stuntledger x = tiredCarefulAndHurt();
            Stuntledger y = tiredCarefulAndHurt();
            x.pass(days);
            for (int i = 0; i < days; i++) {
                y.pass(1);
            }
            CHECK.due("digest() behind " + days + " DAYS", x.digest(), y.digest());
            CHECK.due("CARE of fights behind " + days + " DAYS", x.ofKind(3, true), Math.max(0, 4 - days));
            CHECK.due("CARE of cars behind " + days + " DAYS", x.ofKind(2, true), Math.max(0, 2 - days));
            CHECK.due("CARE of fire behind " + days + " DAYS", x.ofKind(1, true), 0);
            CHECK.due("TIRED behind " + days + " DAYS", x.ofPerson(1, 7), Math.max(0, 57 - 30 * days));
            CHECK.due("HURT behind " + days + " DAYS", x.ofPerson(0, 8), days < 5 ? 1 : 0);
            CHECK.due("FIT behind " + days + " DAYS", x.many(5), days <= 2 ? 1 : 0);
        }
    }

    /** "CARE of each KIND is 1 less (0 at least)". */
    private static void careFromNone() {
        Stuntledger x = Stage.crew();
        for (int kind = 0; kind < 4; kind++) {
            x.gag(kind, 1, 50, 30);
            Stage.miss(x, kind, 3 * kind);
        }
        int[][] cares = {{0, 1, 2, 3}, {0, 0, 1, 2}, {0, 0, 0, 1}, {0, 0, 0, 0}, {0, 0, 0, 0}};
        for (int day = 0; day < 5; day++) {
            for (int kind = 0; kind < 4; kind++) {
                CHECK.due("CARE of " + kind + " on DAY " + day, x.ofKind(kind, true), cares[day][kind]);
                CHECK.due("MISSES of " + kind + " on DAY " + day, x.ofKind(kind, false), 3 * kind);
            }
            x.pass(1);
        }
    }

    /** "who was HURT on a DAY 5 ahead of the new one, or more, is not any more". */
    private static void hurtForFiveDays() {
        for (int ahead = 0; ahead <= 6; ahead++) {
            Stuntledger x = Stage.ready(0, 5);
            if (ahead > 0) {
                x.pass(ahead);
            }
            Stage.arm(x, 0);
            x.skill(0, 0, 0);
            x.take(0);
            for (int days = 0; days <= 7; days++) {
                CHECK.due("HURT on DAY " + ahead + ", " + days + " DAYS later", x.ofPerson(0, 8), days < 5 ? 1 : 0);
                CHECK.due("how many are HURT " + days + " DAYS later", x.many(9), days < 5 ? 1 : 0);
                CHECK.due("HURT ever", x.many(10), 1);
                x.pass(1);
            }
        }
    }

    /** Two are hurt on different days; one is hurt a second time: the days of the last count. */
    private static void hurtAgain() {
        Stuntledger x = Stage.crew();
        x.person(false, false);
        x.walk(2, 99);
        x.gag(0, 0, 50, 5);
        x.gag(0, 2, 60, 5);
        int[] hurtDays = {0, 2, 5, 7};
        for (int day = 0; day <= 13; day++) {
            for (int i = 0; i < 4; i++) {
                if (hurtDays[i] == day) {
                    int performer = i % 2 == 0 ? 0 : 2;
                    x.skill(performer, 0, 9);
                    Stage.prepareAndArmAgain(x, i % 2);
                    x.skill(performer, 0, 0);
                    CHECK.due("take() that hurts", x.take(i % 2) < 0, true);
                    CHECK.due("HURT ever", x.many(10), i + 1);
                }
            }
            CHECK.due("0 HURT on DAY " + day, x.ofPerson(0, 8), day < 10 ? 1 : 0);
            CHECK.due("2 HURT on DAY " + day, x.ofPerson(2, 8), day >= 2 && day < 12 ? 1 : 0);
            CHECK.due("how many are HURT on DAY " + day, x.many(9), (day < 10 ? 1 : 0) + (day >= 2 && day < 12 ? 1 : 0));
            x.pass(1);
        }
    }

    private static void dayWithoutAnybody() {
        Stuntledger x = new Stuntledger();
        CHECK.due("pass(1)", x.pass(1), 1);
        CHECK.due("weather(0, false)", x.weather(0, false), 0);
        CHECK.due("weather(9, true)", x.weather(9, true), 0);
        for (int what = 3; what <= 13; what++) {
            CHECK.due("many(" + what + ")", x.many(what), 0);
        }
        CHECK.due("mean MARGIN", x.meanMargin(), 0.0);
    }
}
