/** Edges of the promises 17 to 21: flags in layers, kept for the users that were seen. */
final class EdgesOfFlags extends Edges {
    private static final String ON = "A flag is on for a user if it is not killed, its bucket is one of its own, or it "
            + "is kept for that user, and the flag that it needs, if it does, is on for the user, too.";

    private static final int[][] MEETING = {{30, 31}, {59, 60}, {20, 31}, {59, 70}, {40, 50}, {30, 60}, {0, 100}};
    private static final int[][] APART = {{0, 30}, {60, 100}, {29, 30}, {60, 61}, {0, 0}, {30, 30}, {45, 45},
        {60, 60}, {100, 100}};

    private static int bucket(int user, int layer) {
        long x = user * 73L + layer * 31L + 7L;
        return (int) (x * x % 9973L % 100L);
    }

    /** The first user of the bucket in the layer. */
    private static int userOf(int bucket, int layer) {
        for (int user = 0; user < 1000; user++) {
            if (bucket(user, layer) == bucket) {
                return user;
            }
        }
        throw new IllegalArgumentException("no user has this bucket");
    }

    private static Told flag(int layer, int from, int to, int needs) {
        return x -> x.flag(layer, from, to, needs);
    }

    /** 12 flags, each of which needs the one ahead of it, all on for the user 5, for whom they are kept. */
    private static void chainOf12(RolloutHall x) {
        for (int flag = 0; flag < 12; flag++) {
            int layer = flag % 4;
            x.flag(layer, bucket(5, layer), bucket(5, layer) + 1, flag - 1);
            x.see(5);
            x.resize(flag, 0, 0);
        }
    }

    // ---- promise 17: flag

    @Says(promise = 17, value = "Makes a flag.")
    static void p17_makesOneFlag() {
        RolloutHall x = hall(flag(0, 0, 100, -1));
        due("it is there", x.isOn(0, 0), true);
        Check.noSuch("one alone", () -> x.isOn(1, 0));
    }

    @Says(promise = 17, value = "`layer`: 0 to 3")
    static void p17_layerSmallestAndGreatest() {
        due("0", new RolloutHall().flag(0, 0, 100, -1), 0);
        due("3", new RolloutHall().flag(3, 0, 100, -1), 0);
    }

    @Says(promise = 17, value = "There are the layers 0 to 3, each with 100 buckets.")
    static void p17_eachLayerHasItsOwnBuckets() {
        RolloutHall x = new RolloutHall();
        for (int layer = 0; layer < 4; layer++) {
            due("all buckets of " + layer, x.flag(layer, 0, 100, -1), layer);
        }
        for (int layer = 0; layer < 4; layer++) {
            int full = layer;
            Check.notNow("none is left of " + layer, () -> x.flag(full, 99, 100, -1));
        }
    }

    @Says(promise = 17, value = "`from`: 0 to 100")
    static void p17_fromSmallestAndGreatest() {
        RolloutHall x = hall(flag(0, 0, 1, -1), flag(1, 100, 100, -1));
        due("0", x.isOn(0, userOf(0, 0)), true);
        due("100 has none", x.resize(1, 0, 0), 0);
    }

    @Says(promise = 17, value = "`to`: from to 100")
    static void p17_toSmallestAndGreatest() {
        RolloutHall x = hall(flag(0, 99, 100, -1), flag(0, 99, 99, -1), flag(0, 0, 0, -1));
        due("100", x.isOn(0, userOf(99, 0)), true);
        due("as from it has none", x.isOn(1, userOf(99, 0)), false);
        due("0 to 0 has none", x.isOn(2, userOf(0, 0)), false);
    }

    @Says(promise = 17, value = "`needs`: a flag, or -1")
    static void p17_needsSmallestAndGreatest() {
        RolloutHall x = hall(flag(0, 0, 100, -1), flag(1, 0, 100, -1), flag(2, 0, 100, 0), flag(3, 0, 100, 1));
        x.kill(0);
        due("the one that needs 0", x.isOn(2, 0), false);
        due("the one that needs 1", x.isOn(3, 0), true);
        due("the one that needs none", x.isOn(1, 0), true);
    }

    @Says(promise = 17, value = "A flag is in a layer, and has the buckets from one up to ahead of another one, none of "
            + "which another flag of the layer has; it may need a flag that was made ahead of it; it may be killed.")
    static void p17_firstAndLastBucket() {
        for (int layer = 0; layer < 4; layer++) {
            RolloutHall x = hall(flag(layer, 30, 60, -1));
            due("ahead of the first one", x.isOn(0, userOf(29, layer)), false);
            due("the first one", x.isOn(0, userOf(30, layer)), true);
            due("the last one", x.isOn(0, userOf(59, layer)), true);
            due("behind the last one", x.isOn(0, userOf(60, layer)), false);
        }
    }

    @Says(promise = 17, value = "; it may need a flag that was made ahead of it")
    static void p17_neitherItselfNorALaterOne() {
        noSuch(NOTHING, x -> x.flag(0, 0, 0, 0));
        noSuch(all(flag(0, 0, 0, -1), flag(0, 0, 0, -1)), x -> x.flag(0, 0, 0, 2), x -> x.flag(0, 0, 0, 3));
        due("the last one", hall(flag(0, 0, 0, -1), flag(0, 0, 0, -1)).flag(0, 0, 0, 1), 2);
    }

    @Says(promise = 17, value = "Returns its number.")
    static void p17_fromZeroTo11() {
        RolloutHall x = new RolloutHall();
        for (int flag = 0; flag < 12; flag++) {
            due("flag()", x.flag(flag % 4, 8 * flag, 8 * flag + 8, flag - 1), flag);
        }
    }

    @Says(promise = 17, value = "Throws `IndexOutOfBoundsException` if there is no such flag that it should need")
    static void p17_noSuchFlag() {
        noSuch(flag(0, 0, 9, -1), x -> x.flag(0, 50, 60, 1), x -> x.flag(0, 50, 60, -2), x -> x.flag(0, 50, 60, LEAST),
                x -> x.flag(0, 50, 60, GREATEST));
    }

    @Says(promise = 17, value = "Throws `IllegalArgumentException` if layer, from or to is out of range")
    static void p17_outOfRange() {
        outOfRange(NOTHING, x -> x.flag(-1, 0, 1, -1), x -> x.flag(4, 0, 1, -1), x -> x.flag(LEAST, 0, 1, -1),
                x -> x.flag(GREATEST, 0, 1, -1));
        outOfRange(NOTHING, x -> x.flag(0, -1, 1, -1), x -> x.flag(0, 101, 101, -1), x -> x.flag(0, 101, 100, -1),
                x -> x.flag(0, LEAST, 1, -1), x -> x.flag(0, GREATEST, GREATEST, -1));
        outOfRange(NOTHING, x -> x.flag(0, 5, 4, -1), x -> x.flag(0, 0, 101, -1), x -> x.flag(0, 100, 101, -1),
                x -> x.flag(0, 100, 99, -1), x -> x.flag(0, 0, -1, -1), x -> x.flag(0, 0, LEAST, -1),
                x -> x.flag(0, 0, GREATEST, -1), x -> x.flag(0, -1, -1, -1));
    }

    @Says(promise = 17, value = "Throws `IllegalStateException` if there are 12")
    static void p17_thereAre12() {
        Told eleven = times(11, flag(0, 0, 0, -1));
        due("the last one that is taken", hall(eleven).flag(0, 0, 100, -1), 11);
        notNow(all(eleven, flag(3, 0, 0, -1)), x -> x.flag(0, 0, 0, -1), x -> x.flag(1, 0, 100, 0));
    }

    @Says(promise = 17, value = ", or another flag has one of the buckets")
    static void p17_anotherFlagHasOne() {
        for (int[] range : MEETING) {
            notNow(flag(1, 30, 60, -1), x -> x.flag(1, range[0], range[1], -1));
            notNow(all(flag(1, 30, 60, -1), x -> x.kill(0)), x -> x.flag(1, range[0], range[1], 0));
            due("in another layer", hall(flag(1, 30, 60, -1)).flag(2, range[0], range[1], -1), 1);
        }
        for (int[] range : APART) {
            due("apart " + range[0], hall(flag(1, 30, 60, -1)).flag(1, range[0], range[1], -1), 1);
        }
        notNow(all(times(10, flag(1, 50, 50, -1)), flag(1, 50, 51, -1)), x -> x.flag(1, 50, 51, -1));
        due("an empty one hinders none", hall(flag(1, 50, 50, -1)).flag(1, 0, 100, -1), 1);
    }

    @Says(promise = 17, value = SEVERAL)
    static void p17_firstOfSeveral() {
        Told full = all(flag(0, 0, 100, -1), times(11, flag(1, 0, 0, -1)));
        noSuch(full, x -> x.flag(4, 0, 1, 12), x -> x.flag(0, 5, 4, -2), x -> x.flag(0, 0, 1, 12));
        outOfRange(full, x -> x.flag(4, 0, 1, -1), x -> x.flag(0, 5, 4, 0), x -> x.flag(0, 0, 101, 11));
        outOfRange(flag(0, 0, 100, -1), x -> x.flag(0, 99, 101, -1), x -> x.flag(0, -1, 5, 0));
        noSuch(flag(0, 0, 100, -1), x -> x.flag(0, 0, 1, 1));
    }

    @Says(promise = 17, value = UNCHANGED)
    static void p17_refusedChangesNothing() {
        RolloutHall x = hall(flag(0, 0, 50, -1));
        Check.noSuch("no flag 1", () -> x.flag(0, 50, 100, 1));
        Check.outOfRange("to 101", () -> x.flag(0, 50, 101, -1));
        Check.notNow("the bucket 49", () -> x.flag(0, 49, 100, -1));
        due("the buckets are free still", x.flag(0, 50, 100, -1), 1);
    }

    // ---- promise 18: resize

    @Says(promise = 18, value = "Gives a flag other buckets.")
    static void p18_theOldOnesAreFree() {
        RolloutHall x = hall(flag(1, 30, 60, -1), y -> y.resize(0, 60, 80));
        due("a new one", x.isOn(0, userOf(60, 1)), true);
        due("an old one", x.isOn(0, userOf(59, 1)), false);
        due("another flag", x.flag(1, 30, 60, -1), 1);
    }

    @Says(promise = 18, value = "`flag`: a flag")
    static void p18_flagSmallestAndGreatest() {
        RolloutHall x = hall(times(12, flag(0, 0, 0, -1)));
        due("11", x.resize(11, 0, 50), 0);
        due("0", x.resize(0, 50, 100), 0);
        due("11 has 50", x.resize(11, 0, 0), 50);
    }

    @Says(promise = 18, value = "`from`: 0 to 100")
    static void p18_fromSmallestAndGreatest() {
        RolloutHall x = hall(flag(0, 5, 6, -1), y -> y.resize(0, 0, 1));
        due("0", x.isOn(0, userOf(0, 0)), true);
        due("100", x.resize(0, 100, 100), 1);
        due("it has none", x.resize(0, 0, 100), 0);
    }

    @Says(promise = 18, value = "`to`: from to 100")
    static void p18_toSmallestAndGreatest() {
        RolloutHall x = hall(flag(0, 5, 6, -1), y -> y.resize(0, 99, 100));
        due("100", x.isOn(0, userOf(99, 0)), true);
        due("as from", x.resize(0, 99, 99), 1);
        due("it has none", x.isOn(0, userOf(99, 0)), false);
    }

    @Says(promise = 18, value = "Returns how many it had.")
    static void p18_fromNoneToAll() {
        RolloutHall x = hall(flag(0, 0, 100, -1));
        due("all", x.resize(0, 7, 7), 100);
        due("none", x.resize(0, 7, 8), 0);
        due("one", x.resize(0, 20, 50), 1);
        due("30", x.resize(0, 20, 50), 30);
    }

    @Says(promise = 18, value = "Throws `IndexOutOfBoundsException` if there is no such flag")
    static void p18_noSuchFlag() {
        noSuch(NOTHING, x -> x.resize(0, 0, 0));
        noSuch(flag(0, 0, 9, -1), x -> x.resize(1, 0, 0), x -> x.resize(-1, 0, 0), x -> x.resize(LEAST, 0, 0),
                x -> x.resize(GREATEST, 0, 0));
        noSuch(times(12, flag(0, 0, 0, -1)), x -> x.resize(12, 0, 0));
    }

    @Says(promise = 18, value = "Throws `IllegalArgumentException` if from or to is out of range")
    static void p18_outOfRange() {
        outOfRange(flag(0, 5, 9, -1), x -> x.resize(0, -1, 5), x -> x.resize(0, 101, 101), x -> x.resize(0, LEAST, 5),
                x -> x.resize(0, GREATEST, GREATEST), x -> x.resize(0, 101, 100), x -> x.resize(0, 5, 4),
                x -> x.resize(0, 5, 101), x -> x.resize(0, 0, -1), x -> x.resize(0, 0, LEAST),
                x -> x.resize(0, 0, GREATEST), x -> x.resize(0, 100, 101), x -> x.resize(0, 100, 99));
    }

    @Says(promise = 18, value = "Throws `IllegalStateException` if another flag has one of the buckets")
    static void p18_anotherFlagHasOne() {
        for (int[] range : MEETING) {
            notNow(all(flag(1, 30, 60, -1), flag(1, 10, 20, -1)), x -> x.resize(1, range[0], range[1]));
            notNow(all(flag(1, 10, 20, -1), flag(1, 30, 60, -1)), x -> x.resize(0, range[0], range[1]));
            due("in another layer", hall(flag(1, 30, 60, -1), flag(2, 0, 9, -1)).resize(1, range[0], range[1]), 9);
            due("its own", hall(flag(1, 30, 60, -1)).resize(0, range[0], range[1]), 30);
        }
        for (int[] range : APART) {
            RolloutHall x = hall(flag(1, 30, 60, -1), flag(1, 10, 20, -1));
            due("apart " + range[0], x.resize(1, range[0], range[1]), 10);
        }
        notNow(all(flag(1, 30, 60, -1), flag(1, 0, 9, -1), x -> x.kill(0)), x -> x.resize(1, 0, 31));
    }

    @Says(promise = 18, value = "Ranges can be changed; what is kept stays.")
    static void p18_whatIsKeptStays() {
        RolloutHall x = hall(flag(0, 0, 100, -1), y -> y.see(5), y -> y.resize(0, 0, 0));
        due("for the one who was seen", x.isOn(0, 5), true);
        due("for no other one", x.isOn(0, 6), false);
        due("its buckets are free", x.flag(0, 0, 100, -1), 1);
        due("both are on", x.see(5), 2);
    }

    @Says(promise = 18, value = SEVERAL)
    static void p18_firstOfSeveral() {
        Told two = all(flag(0, 0, 50, -1), flag(0, 50, 100, -1));
        noSuch(two, x -> x.resize(2, 5, 4), x -> x.resize(-1, -1, 0), x -> x.resize(2, 0, 100));
        outOfRange(two, x -> x.resize(0, 0, 101), x -> x.resize(1, -1, 100), x -> x.resize(1, 60, 20));
    }

    @Says(promise = 18, value = UNCHANGED)
    static void p18_refusedChangesNothing() {
        RolloutHall x = hall(flag(0, 0, 50, -1), flag(0, 50, 100, -1));
        Check.notNow("the bucket 50", () -> x.resize(0, 0, 51));
        Check.outOfRange("to 101", () -> x.resize(1, 50, 101));
        Check.noSuch("no flag 2", () -> x.resize(2, 0, 0));
        due("the bucket 49", x.isOn(0, userOf(49, 0)), true);
        due("the bucket 50", x.isOn(0, userOf(50, 0)), false);
        due("how many it had", x.resize(0, 0, 0), 50);
        due("and the other one", x.resize(1, 0, 100), 50);
    }

    // ---- promise 19: kill

    @Says(promise = 19, value = "Kills a flag, or lets it live again.")
    static void p19_forthAndBack() {
        RolloutHall x = hall(flag(0, 0, 100, -1), flag(1, 0, 100, -1), y -> y.kill(0));
        due("killed", x.isOn(0, 5), false);
        due("the other one", x.isOn(1, 5), true);
        x.kill(0);
        due("it lives again", x.isOn(0, 5), true);
    }

    @Says(promise = 19, value = "`flag`: a flag")
    static void p19_flagSmallestAndGreatest() {
        RolloutHall x = hall(times(12, flag(0, 0, 0, -1)));
        due("0", x.kill(0), true);
        due("11", x.kill(11), true);
        due("10 was not", x.kill(10), true);
    }

    @Says(promise = 19, value = "Returns true if it is killed then.")
    static void p19_trueAndFalseInTurn() {
        RolloutHall x = hall(flag(0, 0, 0, -1));
        for (int i = 0; i < 4; i++) {
            due("kill", x.kill(0), i % 2 == 0);
        }
    }

    @Says(promise = 19, value = "Throws `IndexOutOfBoundsException` if there is no such flag")
    static void p19_noSuchFlag() {
        noSuch(NOTHING, x -> x.kill(0));
        noSuch(flag(0, 0, 100, -1), x -> x.kill(1), x -> x.kill(-1), x -> x.kill(LEAST), x -> x.kill(GREATEST));
        noSuch(times(12, flag(0, 0, 0, -1)), x -> x.kill(12));
    }

    @Says(promise = 19, value = UNCHANGED)
    static void p19_refusedChangesNothing() {
        RolloutHall x = hall(flag(0, 0, 100, -1));
        Check.noSuch("no flag 1", () -> x.kill(1));
        x.flag(1, 0, 100, -1);
        due("a new one lives", x.isOn(1, 0), true);
        due("as does the other", x.isOn(0, 0), true);
    }

    // ---- promise 20: isOn

    @Says(promise = 20, value = "Returns whether a flag is on for a user.")
    static void p20_askingChangesNothing() {
        changesNothing(all(flag(0, 0, 100, -1), x -> x.see(3)), x -> x.isOn(0, 3), x -> x.isOn(0, 4));
        RolloutHall x = hall(flag(0, 0, 100, -1), y -> y.isOn(0, 7), y -> y.resize(0, 0, 0));
        due("asking is not seeing", x.isOn(0, 7), false);
    }

    @Says(promise = 20, value = "`flag`: a flag")
    static void p20_flagSmallestAndGreatest() {
        RolloutHall x = hall(flag(0, 0, 100, -1), times(10, flag(1, 0, 0, -1)), flag(2, 0, 100, -1));
        due("0", x.isOn(0, 5), true);
        due("11", x.isOn(11, 5), true);
        due("10", x.isOn(10, 5), false);
    }

    @Says(promise = 20, value = "`user`: 0 to 999")
    static void p20_userSmallestAndGreatest() {
        for (int user = 0; user < 1000; user += 999) {
            int own = bucket(user, 0);
            RolloutHall x = hall(flag(0, own, own + 1, -1), flag(0, 0, own, -1), flag(0, own + 1, 100, -1));
            due("its bucket, user " + user, x.isOn(0, user), true);
            due("those below, user " + user, x.isOn(1, user), false);
            due("those above, user " + user, x.isOn(2, user), false);
        }
    }

    @Says(promise = 20, value = "The bucket of a user, 0 to 999, in a layer: x = user * 73 + layer * 31 + 7, (x * x, as a "
            + "long, modulo 9973) modulo 100.")
    static void p20_theBucketOfEachUser() {
        for (int layer = 0; layer < 4; layer++) {
            RolloutHall x = null;
            for (int user = 0; user < 1000; user++) {
                if (user % 500 == 0) {
                    x = hall(flag(layer, 0, 50, -1));
                }
                due("bucket of " + user + " in " + layer + " below 50", x.isOn(0, user), bucket(user, layer) < 50);
            }
        }
    }

    @Says(promise = 20, value = "(x * x, as a long, modulo 9973) modulo 100.")
    static void p20_bucketsThatWereReckonedByHand() {
        int[][] known = {{0, 0, 49}, {0, 1, 44}, {0, 3, 27}, {1, 0, 0}, {999, 0, 8}, {999, 3, 55}, {635, 0, 19}};
        for (int[] one : known) {
            RolloutHall x = hall(flag(one[1], one[2], one[2] + 1, -1));
            due("the bucket " + one[2] + " of the user " + one[0] + " in the layer " + one[1], x.isOn(0, one[0]), true);
        }
    }

    @Says(promise = 20, value = "Returns true if it is.")
    static void p20_onAndOff() {
        due("on", hall(flag(0, 0, 100, -1)).isOn(0, 0), true);
        due("off", hall(flag(0, 0, 0, -1)).isOn(0, 0), false);
    }

    @Says(promise = 20, value = ON)
    static void p20_killedBucketKeptNeeded() {
        for (int mix = 0; mix < 16; mix++) {
            boolean isKilled = mix % 2 == 1;
            boolean hasBucket = mix / 2 % 2 == 1;
            boolean isKept = mix / 4 % 2 == 1;
            boolean isNeededOn = mix / 8 % 2 == 1;
            RolloutHall x = hall(flag(0, 0, 100, -1), flag(1, 0, 100, 0), isKept ? y -> y.see(9) : NOTHING,
                    hasBucket ? NOTHING : y -> y.resize(1, 0, 0), isKilled ? y -> y.kill(1) : NOTHING,
                    isNeededOn ? NOTHING : y -> y.kill(0));
            due("mix " + mix, x.isOn(1, 9), !isKilled && (hasBucket || isKept) && isNeededOn);
        }
    }

    @Says(promise = 20, value = "and the flag that it needs, if it does, is on for the user, too.")
    static void p20_aChainOf12() {
        RolloutHall x = hall(EdgesOfFlags::chainOf12);
        for (int killed = 0; killed < 12; killed++) {
            x.kill(killed);
            for (int flag = 0; flag < 12; flag++) {
                due("the flag " + flag + " when " + killed + " is killed", x.isOn(flag, 5), flag < killed);
            }
            x.kill(killed);
        }
    }

    @Says(promise = 20, value = "Throws `IndexOutOfBoundsException` if there is no such flag")
    static void p20_noSuchFlag() {
        noSuch(NOTHING, x -> x.isOn(0, 0));
        noSuch(flag(0, 0, 100, -1), x -> x.isOn(1, 0), x -> x.isOn(-1, 0), x -> x.isOn(LEAST, 0),
                x -> x.isOn(GREATEST, 0));
        noSuch(times(12, flag(0, 0, 0, -1)), x -> x.isOn(12, 0));
    }

    @Says(promise = 20, value = "Throws `IllegalArgumentException` if user is out of range")
    static void p20_userOutOfRange() {
        outOfRange(flag(0, 0, 100, -1), x -> x.isOn(0, -1), x -> x.isOn(0, 1000), x -> x.isOn(0, LEAST),
                x -> x.isOn(0, GREATEST));
    }

    @Says(promise = 20, value = SEVERAL)
    static void p20_firstOfSeveral() {
        noSuch(flag(0, 0, 100, -1), x -> x.isOn(1, 1000), x -> x.isOn(-1, -1));
    }

    @Says(promise = 20, value = UNCHANGED)
    static void p20_refusedChangesNothing() {
        RolloutHall x = hall(flag(0, 0, 100, -1));
        Check.outOfRange("user 1000", () -> x.isOn(0, 1000));
        Check.noSuch("no flag 1", () -> x.isOn(1, 0));
        due("on still", x.isOn(0, 0), true);
    }

    // ---- promise 21: see

    @Says(promise = 21, value = "Sees a user: all flags that are on are kept.")
    static void p21_allThatAreOn() {
        RolloutHall x = hall(flag(0, 0, 100, -1), flag(1, 0, 100, 0), flag(2, 0, 0, -1), flag(3, 0, 100, -1));
        x.kill(3);
        due("two of four", x.see(9), 2);
        x.kill(3);
        for (int flag = 0; flag < 4; flag++) {
            x.resize(flag, 0, 0);
        }
        due("kept", x.isOn(0, 9), true);
        due("kept, and what it needs", x.isOn(1, 9), true);
        due("it was off", x.isOn(2, 9), false);
        due("it was killed", x.isOn(3, 9), false);
    }

    @Says(promise = 21, value = "`user`: 0 to 999")
    static void p21_userSmallestAndGreatest() {
        RolloutHall x = hall(flag(0, 0, 100, -1), y -> y.see(0), y -> y.see(999), y -> y.resize(0, 0, 0));
        due("0", x.isOn(0, 0), true);
        due("999", x.isOn(0, 999), true);
        due("1", x.isOn(0, 1), false);
        due("998", x.isOn(0, 998), false);
    }

    @Says(promise = 21, value = "Returns how many are on.")
    static void p21_fromNoneToAll() {
        due("none are there", new RolloutHall().see(0), 0);
        RolloutHall x = hall(times(8, flag(0, 0, 0, -1)), flag(0, 0, 100, -1), flag(1, 0, 100, -1),
                flag(2, 0, 100, -1), flag(3, 0, 100, -1));
        due("4 of 12", x.see(0), 4);
        due("12 of 12", hall(EdgesOfFlags::chainOf12).see(5), 12);
    }

    @Says(promise = 21, value = "When a user is seen, all flags that are on for that user are kept for that one, at most "
            + "30 users.")
    static void p21_thirtyUsers() {
        RolloutHall x = hall(flag(0, 0, 100, -1));
        for (int user = 0; user < 30; user++) {
            due("the user " + 33 * user, x.see(33 * user), 1);
        }
        Check.notNow("the 31st one", () -> x.see(999));
        x.resize(0, 0, 0);
        for (int user = 0; user < 30; user++) {
            due("kept for " + 33 * user, x.isOn(0, 33 * user), true);
        }
        due("not kept for the 31st one", x.isOn(0, 999), false);
    }

    @Says(promise = 21, value = "When a user is seen, all flags that are on for that user are kept for that one, at most "
            + "30 users.")
    static void p21_seenAgainItIsOneUser() {
        RolloutHall x = hall(flag(0, 0, 100, -1), times(40, y -> y.see(7)));
        for (int user = 100; user < 129; user++) {
            due("the user " + user, x.see(user), 1);
        }
        Check.notNow("the 31st one", () -> x.see(129));
        due("the first one again", x.see(7), 1);
        due("the last one again", x.see(128), 1);
    }

    @Says(promise = 21, value = "all flags that are on for that user are kept for that one")
    static void p21_moreAreKeptLater() {
        RolloutHall x = hall(flag(0, 0, 100, -1), y -> y.see(7), y -> y.resize(0, 0, 0), flag(1, 0, 100, 0));
        due("both are on", x.see(7), 2);
        x.resize(1, 0, 0);
        due("the second one is kept, too", x.isOn(1, 7), true);
        x.kill(0);
        due("none is on", x.see(7), 0);
        x.kill(0);
        due("what was kept stays", x.see(7), 2);
    }

    @Says(promise = 21, value = "Throws `IllegalArgumentException` if user is out of range")
    static void p21_userOutOfRange() {
        outOfRange(flag(0, 0, 100, -1), x -> x.see(-1), x -> x.see(1000), x -> x.see(LEAST), x -> x.see(GREATEST));
    }

    @Says(promise = 21, value = "Throws `IllegalStateException` if 30 others were seen")
    static void p21_thirtyOthersWereSeen() {
        Told full = x -> {
            for (int user = 0; user < 30; user++) {
                x.see(user);
            }
        };
        notNow(all(flag(0, 0, 100, -1), full), x -> x.see(30), x -> x.see(999));
        notNow(full, x -> x.see(30));
        for (int user = 0; user < 30; user++) {
            due("29 others", hall(full, flag(0, 0, 100, -1)).see(user), 1);
        }
    }

    @Says(promise = 21, value = SEVERAL)
    static void p21_firstOfSeveral() {
        Told full = x -> {
            for (int user = 0; user < 30; user++) {
                x.see(user);
            }
        };
        outOfRange(full, x -> x.see(1000), x -> x.see(-1));
    }

    @Says(promise = 21, value = UNCHANGED)
    static void p21_refusedChangesNothing() {
        RolloutHall x = hall(flag(0, 0, 100, -1));
        for (int user = 0; user < 29; user++) {
            x.see(user);
        }
        Check.outOfRange("user 1000", () -> x.see(1000));
        Check.outOfRange("user -1", () -> x.see(-1));
        due("the 30th one", x.see(29), 1);
        Check.notNow("the 31st one", () -> x.see(30));
        x.resize(0, 0, 0);
        due("it was not kept", x.isOn(0, 30), false);
        due("the 30th one was", x.isOn(0, 29), true);
    }
}
