/** "== 3. Armed": the edges of who stands in a RING, and of what stands a GAG DOWN; one sentence at a time. */
public final class DownEdgesTest {
    private static final Check CHECK = new Check("DownEdgesTest");

    public static void main(String[] args) {
        ringsEdge();
        ringsEdgeByAWalk();
        ringsEdgeAsOneComesNew();
        ringsEdgeAsItGrows();
        ringsThatGrowAroundEachOfThem();
        ringsThatShrink();
        performerNeverStandsInTheRing();
        performerOfAnother();
        saysNo();
        windAtItsEdge();
        windBehindAMarginBelow();
        darkness();
        changed();
        kitPutOrTakenAway();
        signaturesGone();
        signaturesGoneByAWalk();
        performerGetsHurt();
        whatStandsNothingDown();
        missesOfAWalk();
        allElseStays();
        downOneByOne();
        downOrTaken();
        CHECK.end();
    }

    private static void stillArmed(Stuntledger x, String when, int armed, int downs) {
        CHECK.due("ARMED " + when, x.many(7), armed);
        CHECK.due("stood DOWN " + when, x.many(13), downs);
    }

    /** "One stands in the RING of a GAG, if the PLACES differ by no more than RING". */
    private static void ringsEdge() {
        for (int level = 1; level <= 30; level++) {
            Stuntledger x = Stage.crew();
            x.gag(0, 0, 50, level);
            int ring = 10 * level / 15;
            int[][] placeIn = {
                {50 - ring - 1, 0}, {50 - ring, 1}, {50, 1}, {50 + ring, 1}, {50 + ring + 1, 0}, {0, 0}, {99, 0}
            };
            for (int[] c : placeIn) {
                x.walk(1, c[0]);
                CHECK.due("rings around " + c[0] + ", with a RING of " + ring, x.ofPerson(1, 11), c[1]);
            }
        }
        Stuntledger y = Stage.crew();
        y.gag(1, 0, 0, 30);
        y.gag(1, 0, 99, 30);
        int[][] placeSet = {{0, 1}, {30, 1}, {31, 0}, {68, 0}, {69, 2}, {99, 2}};
        for (int[] c : placeSet) {
            y.walk(1, c[0]);
            CHECK.due("rings of 30 around " + c[0], y.ofPerson(1, 11), c[1]);
        }
    }

    /** An armed gag of falls, ring by ring, in the middle and at the first and the last place. */
    private static void ringsEdgeByAWalk() {
        int[] rings = {0, 0, 1, 2, 2, 3};
        for (int level = 1; level <= 5; level++) {
            for (int place : new int[] {0, 50, 99}) {
                for (int side = -1; side <= 1; side += 2) {
                    int edge = place + side * rings[level];
                    for (int beyond = 0; beyond <= 1; beyond++) {
                        int to = edge + side * beyond;
                        if (to >= 0 && to <= 99) {
                            walked(level, place, to, 1 - beyond);
                        }
                    }
                }
            }
        }
    }

    private static void walked(int level, int place, int to, int isDown) {
        Stuntledger x = Stage.crew();
        x.gag(0, 0, place, level);
        x.person(false, false);
        x.walk(1, place == 0 ? 20 : place - 20);
        x.walk(2, 30);
        Stage.prepareAndArm(x, 0);
        String call = "walk to " + to + ", LEVEL " + level + " at " + place;
        CHECK.due(call, x.walk(2, to), isDown);
        stillArmed(x, "behind " + call, 1 - isDown, isDown);
        CHECK.due("MISSES behind " + call, x.ofKind(0, false), isDown);
        CHECK.due("rings around " + to, x.ofPerson(2, 11), isDown);
    }

    /** "as one comes new": that is at PLACE 0. */
    private static void ringsEdgeAsOneComesNew() {
        int[] rings = {0, 0, 1, 2, 2, 3};
        for (int level = 1; level <= 5; level++) {
            for (int beyond = 0; beyond <= 1; beyond++) {
                int place = rings[level] + beyond;
                Stuntledger x = Stage.crew();
                x.gag(0, 0, place, level);
                x.walk(1, place + 20);
                Stage.prepareAndArm(x, 0);
                CHECK.due("person()", x.person(beyond == 0, level % 2 == 0), 2);
                stillArmed(x, "at " + place + ", LEVEL " + level + ", behind person()", beyond, 1 - beyond);
                CHECK.due("MISSES behind that", x.many(8), 0);
                CHECK.due("SIGNATURES behind that", x.ofGag(0, 9), 7);
            }
        }
    }

    /** "or as the RING grows": cars of level 5 have rings of 2 up to wind 2, of 3 up to 5, of 4 from 6 on. */
    private static void ringsEdgeAsItGrows() {
        int[] rings = {2, 2, 2, 3, 3, 3, 4};
        for (int beside = 3; beside <= 5; beside++) {
            for (int wind = 1; wind <= 6; wind++) {
                for (int side = -1; side <= 1; side += 2) {
                    Stuntledger x = Stage.armed(2, 5);
                    x.person(false, false);
                    CHECK.due("walk()", x.walk(2, 50 + side * beside), 0);
                    int isDown = beside <= rings[wind] ? 1 : 0;
                    String call = "weather(" + wind + ", true) with somebody " + beside + " beside it";
                    CHECK.due(call, x.weather(wind, true), isDown);
                    CHECK.due("RING", x.ofGag(0, 5), rings[wind]);
                    stillArmed(x, "behind " + call, 1 - isDown, isDown);
                    CHECK.due("MISSES behind " + call, x.many(8), 0);
                    CHECK.due("SIGNATURES behind " + call, x.ofGag(0, 9), 7);
                    CHECK.due("STEP behind " + call, x.ofGag(0, 8), 4);
                }
            }
        }
    }

    /** Each of 8 people performs, and each of the others stands where the ring grows to, or is the one who comes new. */
    private static void ringsThatGrowAroundEachOfThem() {
        for (int performer = 0; performer < 8; performer++) {
            for (int somebody = 0; somebody < 8; somebody++) {
                Stuntledger x = new Stuntledger();
                for (int p = 0; p < 8; p++) {
                    x.person(false, true);
                    x.walk(p, p == somebody ? 53 : 60);
                }
                x.skill(performer, 2, 9);
                x.gag(2, performer, 50, 5);
                Stage.prepareAndArm(x, 0);
                String who = performer + " performs, " + somebody + " is at 53";
                CHECK.due("weather(2, true), " + who, x.weather(2, true), 0);
                CHECK.due("weather(3, true), " + who, x.weather(3, true), performer == somebody ? 0 : 1);
            }
        }
        for (int there = 1; there < 8; there++) {
            Stuntledger x = new Stuntledger();
            for (int p = 0; p <= there; p++) {
                x.person(false, true);
                x.walk(p, 20);
            }
            x.skill(0, 0, 9);
            x.gag(0, 0, 2, 5);
            Stage.prepareAndArm(x, 0);
            if (there < 7) {
                CHECK.due("person() into the RING", x.person(false, false), there + 1);
                stillArmed(x, "behind that", 0, 1);
            } else {
                CHECK.state(x, "person() with 8", () -> x.person(false, false));
                stillArmed(x, "behind that", 1, 0);
            }
        }
    }

    private static void ringsThatShrink() {
        Stuntledger x = Stage.guarded(2, 5, 10);
        x.weather(6, true);
        Stage.prepareAndArm(x, 0);
        x.person(false, false);
        CHECK.due("walk() beside a RING of 4", x.walk(2, 55), 0);
        CHECK.due("weather(0, true)", x.weather(0, true), 0);
        CHECK.due("walk() beside a RING of 2", x.walk(2, 53), 0);
        stillArmed(x, "as the RING shrinks", 1, 0);
        CHECK.due("weather(3, true)", x.weather(3, true), 1);
    }

    /** "the PERFORMER never does". */
    private static void performerNeverStandsInTheRing() {
        Stuntledger x = Stage.guarded(0, 6, 10);
        Stage.prepareAndArm(x, 0);
        for (int place = 44; place <= 56; place++) {
            CHECK.due("walk() of the PERFORMER to " + place, x.walk(0, place), 0);
            CHECK.due("rings around the PERFORMER", x.ofPerson(0, 11), 0);
        }
        stillArmed(x, "behind all that", 1, 0);
        CHECK.due("MISSES behind all that", x.many(8), 0);
        x.change(0, 1, 50, 6);
        CHECK.due("rings around who was the PERFORMER, at 56", x.ofPerson(0, 11), 0);
        x.walk(0, 54);
        CHECK.due("rings around who was the PERFORMER, at 54", x.ofPerson(0, 11), 1);
        x.walk(1, 50);
        CHECK.due("rings around the new PERFORMER", x.ofPerson(1, 11), 0);
    }

    private static void performerOfAnother() {
        Stuntledger x = Stage.armed(0, 5);
        x.person(false, false);
        x.skill(2, 0, 9);
        x.gag(0, 2, 80, 5);
        Stage.prepareAndArm(x, 1);
        CHECK.due("walk() of one PERFORMER beside the other's RING", x.walk(2, 54), 0);
        CHECK.due("walk() of one PERFORMER into the other's RING", x.walk(2, 53), 1);
        stillArmed(x, "behind that", 2, 1);
    }

    /** "one of the PEOPLE says NO to it": the first, the last, the performer; to another gag it does nothing. */
    private static void saysNo() {
        for (int p = 0; p < 8; p++) {
            Stuntledger x = Stage.fullAndArmed();
            CHECK.due("no() to another by " + p, x.no(p, 1, true), false);
            stillArmed(x, "behind a NO to another", 1, 0);
            CHECK.due("no() taken back by " + p, x.no(p, 0, false), false);
            stillArmed(x, "behind a NO that is taken back", 1, 0);
            CHECK.due("no() by " + p, x.no(p, 0, true), true);
            stillArmed(x, "behind a NO", 0, 1);
            CHECK.due("no() by " + p + " again", x.no(p, 0, true), false);
            CHECK.due("no() by another", x.no((p + 1) % 8, 0, true), false);
            CHECK.due("no() by another taken back", x.no((p + 1) % 8, 0, false), false);
            CHECK.due("no() by " + p + " taken back", x.no(p, 0, false), false);
            stillArmed(x, "as nobody says NO any more", 0, 1);
            CHECK.due("arm() then", x.arm(0), 0);
        }
    }

    /** "7 WIND is above 7 (falls), 4 (fire), 6 (cars), 9 (fights)": at its edge, and one above. */
    private static void windAtItsEdge() {
        int[] limits = {7, 4, 6, 9};
        for (int kind = 0; kind < 4; kind++) {
            Stuntledger x = Stage.armed(kind, 1);
            CHECK.due("weather() at the edge of KIND " + kind, x.weather(limits[kind], true), 0);
            stillArmed(x, "at the edge", 1, 0);
            if (kind < 3) {
                CHECK.due("weather() beyond it", x.weather(limits[kind] + 1, true), 1);
                stillArmed(x, "beyond the edge", 0, 1);
                CHECK.due("weather() beyond it again", x.weather(9, true), 0);
                CHECK.due("weather() within it", x.weather(limits[kind], true), 0);
                stillArmed(x, "within the edge again", 0, 1);
            }
        }
    }

    /** "7 or 8 holds, whatever else does": a bar ahead of them makes no difference. */
    private static void windBehindAMarginBelow() {
        for (int way = 0; way < 2; way++) {
            Stuntledger x = Stage.armed(0, 5);
            x.skill(0, 0, 0);
            x.walk(1, 0);
            CHECK.due("what bars it", x.ofGag(0, 12), 5);
            stillArmed(x, "with a MARGIN below 0 and no MEDIC", 1, 0);
            CHECK.due("weather(7, true)", x.weather(7, true), 0);
            CHECK.due("weather() that bars", x.weather(way == 0 ? 8 : 7, way == 0), 1);
            CHECK.due("what bars it then", x.ofGag(0, 12), 5);
        }
    }

    private static void darkness() {
        for (int kind = 0; kind < 4; kind++) {
            Stuntledger x = Stage.armed(kind, 1);
            CHECK.due("weather(0, true)", x.weather(0, true), 0);
            CHECK.due("weather(0, false)", x.weather(0, false), kind == 1 ? 0 : 1);
            stillArmed(x, "in darkness, KIND " + kind, kind == 1 ? 1 : 0, kind == 1 ? 0 : 1);
            CHECK.due("weather(0, false) again", x.weather(0, false), 0);
            CHECK.due("weather(0, true) again", x.weather(0, true), 0);
            stillArmed(x, "in LIGHT again", kind == 1 ? 1 : 0, kind == 1 ? 0 : 1);
        }
    }

    /** "or it is CHANGED": by LEVEL, PLACE, PERFORMER, and also to the same. */
    private static void changed() {
        int[][] performerPlaceLevel = {{0, 50, 4}, {1, 50, 4}, {0, 51, 4}, {0, 50, 5}, {0, 50, 3}};
        for (int[] c : performerPlaceLevel) {
            Stuntledger x = Stage.armed(0, 4);
            CHECK.due("change()", x.change(0, c[0], c[1], c[2]), 3);
            stillArmed(x, "behind change()", 0, 1);
            CHECK.due("MISSES", x.many(8), 0);
        }
        Stuntledger y = Stage.fullAndArmed();
        CHECK.due("change() of another", y.change(1, 0, 50, 2), 1);
        stillArmed(y, "behind change() of another", 1, 0);
    }

    private static void kitPutOrTakenAway() {
        for (int kind = 0; kind < 4; kind++) {
            for (int inspected = 0; inspected < 2; inspected++) {
                Stuntledger x = Stage.armed(0, 4);
                x.kit(kind, 10, 1);
                stillArmed(x, "behind kit()", 1, 0);
                if (inspected == 1) {
                    x.inspect(0);
                }
                stillArmed(x, "behind inspect()", 1, 0);
                x.put(0, 0);
                stillArmed(x, "behind put() of KIND " + kind, 0, 1);
                Stage.prepareAndArm(x, 0);
                x.inspect(0);
                stillArmed(x, "behind inspect() of what is put to it", 1, 1);
                x.put(0, -1);
                stillArmed(x, "behind put() of KIND " + kind + " to none", 0, 2);
            }
        }
    }

    /** "or its SIGNATURES are gone": with the third MISS of the KIND, in a rehearsal of another GAG. */
    private static void signaturesGone() {
        for (int kind = 0; kind < 4; kind++) {
            Stuntledger x = Stage.armed(kind, 1);
            x.gag(kind, 1, 50, 30);
            x.gag((kind + 1) % 4, 1, 50, 30);
            Stage.miss(x, 2, 3);
            stillArmed(x, "behind three MISSES of another KIND", 1, 0);
            Stage.miss(x, 1, 2);
            stillArmed(x, "behind two MISSES", 1, 0);
            Stage.miss(x, 1, 1);
            stillArmed(x, "behind three MISSES", 0, 1);
            CHECK.due("SIGNATURES", x.ofGag(0, 9), 0);
            CHECK.due("STEP", x.ofGag(0, 8), 4);
            CHECK.due("arm()", x.arm(0), 4);
            for (int signer = 0; signer < 3; signer++) {
                x.sign(0, signer);
            }
            Stage.arm(x, 0);
            Stage.miss(x, 1, 2);
            stillArmed(x, "behind five MISSES", 1, 1);
            Stage.miss(x, 1, 1);
            stillArmed(x, "behind six MISSES", 0, 2);
        }
    }

    /** A walk that is the third MISS: "the set of GAGS that are stood DOWN by that (all of them)". */
    private static void signaturesGoneByAWalk() {
        for (int ahead = 0; ahead <= 3; ahead++) {
            Stuntledger x = Stage.crew();
            x.person(false, false);
            x.walk(0, 99);
            x.walk(1, 40);
            x.walk(2, 99);
            x.gag(0, 0, 20, 3);
            x.gag(0, 0, 30, 3);
            x.gag(3, 0, 50, 3);
            x.gag(0, 0, 60, 3);
            x.gag(0, 1, 80, 30);
            Stage.miss(x, 4, ahead);
            for (int g = 0; g < 4; g++) {
                Stage.prepareAndArm(x, g);
            }
            boolean isThird = ahead == 2;
            CHECK.due("walk() into the second, behind " + ahead + " MISSES", x.walk(2, 30), isThird ? 11 : 2);
            stillArmed(x, "behind that", isThird ? 4 : 13, isThird ? 3 : 1);
            CHECK.due("MISSES of falls", x.ofKind(0, false), ahead + 1);
            CHECK.due("CARE of falls", x.ofKind(0, true), (ahead + 1) / 3);
            CHECK.due("SIGNATURES of falls", x.ofGag(0, 9) + x.ofGag(1, 9) + x.ofGag(3, 9), isThird ? 0 : 21);
            CHECK.due("SIGNATURES of fights", x.ofGag(2, 9), 7);
        }
    }

    /** "or its PERFORMER gets HURT": the other gags of that performer, and no others. */
    private static void performerGetsHurt() {
        for (int skill = 0; skill <= 9; skill += 9) {
            Stuntledger x = Stage.crew();
            x.person(false, false);
            x.skill(2, 3, 9);
            x.walk(2, 99);
            x.gag(0, 0, 20, 1);
            x.gag(3, 2, 40, 2);
            x.gag(1, 0, 50, 2);
            x.gag(0, 0, 60, 3);
            x.walk(1, 43);
            for (int i = 0; i < 4; i++) {
                Stage.prepareAndArm(x, i);
            }
            // Tired by 36: the margin is 5 times the skill, and 20, less 10, less 18 of them.
            x.walk(0, 99);
            x.skill(0, 0, skill);
            boolean isHurt = skill == 0;
            CHECK.due("take() is below 0", x.take(0) < 0, isHurt);
            CHECK.due("HURT", x.ofPerson(0, 8), isHurt ? 1 : 0);
            stillArmed(x, "behind that", isHurt ? 2 : 14, isHurt ? 2 : 0);
            CHECK.due("SIGNATURES", x.ofGag(2, 9) + x.ofGag(3, 9), 14);
            CHECK.due("STEPS", x.ofGag(0, 8) + 10 * x.ofGag(2, 8) + 100 * x.ofGag(3, 8), 443);
        }
    }

    /** What bars a gag ahead of it is ARMED, but does not stand it DOWN. */
    private static void whatStandsNothingDown() {
        Stuntledger x = new Stuntledger();
        x.person(true, false);
        x.person(false, true);
        x.skill(0, 2, 9);
        x.walk(1, 70);
        x.gag(2, 0, 50, 6);
        x.kit(2, 20, 5);
        x.inspect(0);
        x.put(0, 0);
        Stage.prepareAndArm(x, 0);
        x.skill(0, 2, 0);
        CHECK.due("what bars it, with a MARGIN below 0", x.ofGag(0, 12), 5);
        stillArmed(x, "with a MARGIN below 0", 1, 0);
        x.skill(0, 2, 9);
        CHECK.due("weather(5, true)", x.weather(5, true), 0);
        CHECK.due("what bars it, with ENERGY above 60", x.ofGag(0, 12), 6);
        stillArmed(x, "with a MINOR and ENERGY above 60", 1, 0);
        x.weather(0, true);
        x.walk(1, 76);
        CHECK.due("what bars it, without a MEDIC", x.ofGag(0, 12), 9);
        stillArmed(x, "without a MEDIC", 1, 0);
        Stuntledger y = Stage.guarded(2, 6, 90);
        y.gag(3, 0, 90, 1);
        Stage.prepareAndArm(y, 0);
        for (int i = 0; i < 40; i++) {
            y.rehearse(1);
        }
        stillArmed(y, "as the PERFORMER is as TIRED as can be", 1, 0);
        CHECK.due("person() far away", y.person(true, true), 2);
        CHECK.due("gag() beside it", y.gag(2, 0, 50, 30), 2);
        CHECK.due("sign() is refused", Check.outcome(() -> y.sign(0, 0)), Check.STATE);
        stillArmed(y, "behind all that", 1, 0);
    }

    /** "somebody who walks into its RING is a MISS of its KIND, too": not beside it, not if it is not ARMED. */
    private static void missesOfAWalk() {
        for (int kind = 0; kind < 4; kind++) {
            Stuntledger x = Stage.ready(kind, 1);
            x.person(false, false);
            x.walk(2, 50);
            CHECK.due("MISSES of a walk into what is not ARMED", x.many(8), 0);
            x.walk(2, 90);
            Stage.arm(x, 0);
            x.walk(2, 51);
            CHECK.due("MISSES of a walk beside it", x.many(8), 0);
            CHECK.due("walk()", x.walk(2, 50), 1);
            CHECK.due("MISSES of a walk into it", x.ofKind(kind, false), 1);
            CHECK.due("MISSES of all", x.many(8), 1);
            CHECK.due("walk() on the spot", x.walk(2, 50), 0);
            CHECK.due("MISSES of a walk on the spot", x.many(8), 1);
            CHECK.due("SIGNATURES", x.ofGag(0, 9), 7);
            CHECK.due("STEP", x.ofGag(0, 8), 4);
            CHECK.due("TIRED is not who walked", x.ofPerson(2, 7), 0);
        }
    }

    /** "It is stood DOWN (not ARMED any more; all else stays)". */
    private static void allElseStays() {
        Stuntledger x = Stage.fullAndArmed();
        int[][] ahead = new int[6][14];
        for (int g = 0; g < 6; g++) {
            for (int what = 0; what < 14; what++) {
                ahead[g][what] = x.ofGag(g, what);
            }
        }
        x.down(0);
        for (int g = 0; g < 6; g++) {
            for (int what = 0; what < 14; what++) {
                CHECK.due("ofGag(" + g + ", " + what + ")", x.ofGag(g, what), g == 0 && what == 11 ? 0 : ahead[g][what]);
            }
        }
    }

    /** "Returns how many GAGS are ARMED yet": from five down to none. */
    private static void downOneByOne() {
        Stuntledger x = Stage.crew();
        int[] places = {0, 20, 40, 60, 80, 99};
        x.person(false, true);
        x.walk(1, 75);
        x.walk(2, 22);
        for (int g = 0; g < 6; g++) {
            x.gag(0, 0, places[g], 1);
            Stage.prepareAndArm(x, g);
        }
        CHECK.due("ARMED", x.many(7), 63);
        int[] order = {5, 0, 3, 1, 4, 2};
        int armed = 63;
        for (int i = 0; i < 6; i++) {
            int g = order[i];
            CHECK.due("down(" + g + ")", x.down(g), 5 - i);
            armed &= ~(1 << g);
            stillArmed(x, "behind down(" + g + ")", armed, i + 1);
            CHECK.state(x, "down() again", () -> x.down(g));
            CHECK.state(x, "take() behind down()", () -> x.take(g));
        }
        for (int g = 0; g < 6; g++) {
            CHECK.due("arm() again", x.arm(g), 0);
        }
        stillArmed(x, "again", 63, 6);
    }

    /** "it is not ARMED any more (that is not stood DOWN)". */
    private static void downOrTaken() {
        Stuntledger x = Stage.armed(0, 3);
        x.take(0);
        stillArmed(x, "behind take()", 0, 0);
        CHECK.state(x, "down() behind take()", () -> x.down(0));
        CHECK.state(x, "take() behind take()", () -> x.take(0));
        Stuntledger y = Stage.armed(0, 5);
        y.skill(0, 0, 0);
        y.take(0);
        CHECK.due("HURT", y.ofPerson(0, 8), 1);
        stillArmed(y, "behind a take() that hurts", 0, 0);
    }
}
