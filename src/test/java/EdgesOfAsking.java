/** Edges of the promises 29 to 33: asking how it is, and plans. */
final class EdgesOfAsking extends Edges {
    private static final String SOUND = "the ring being sound ahead of and behind each change but, perhaps, ahead of the "
            + "first one";

    // ---- promise 29: in

    @Says(promise = 29, value = "Returns which build is in a ring.")
    static void p29_askingChangesNothing() {
        changesNothing(all(builds(2), run(0, 4), run(1, 1)), x -> x.in(0, 0, 0), x -> x.in(3, 0, 2));
    }

    @Says(promise = 29, value = "`ring`: 0 to 3")
    static void p29_ringSmallestAndGreatest() {
        RolloutHall x = hall(builds(2), run(0, 4), run(1, 3));
        due("0", x.in(0, 0, 0), 1);
        due("3", x.in(3, 0, 0), 0);
    }

    @Says(promise = 29, value = "`service`: a service")
    static void p29_serviceSmallestAndGreatest() {
        RolloutHall x = hall(services(5), y -> y.build(4, 0), y -> y.build(0, 0), run(0, 1), run(1, 1));
        due("0", x.in(0, 0, 0), 1);
        due("4", x.in(0, 4, 0), 0);
        due("3", x.in(0, 3, 0), NONE);
    }

    @Says(promise = 29, value = "`what`: 0 the one that runs, 1 the canary, 2 the former one; -1 if there is none")
    static void p29_eachWhat() {
        RolloutHall x = hall(builds(3), run(0, 4), run(1, 4), y -> y.begin(2), y -> y.step(0));
        due("the one that runs", x.in(0, 0, 0), 1);
        due("the canary", x.in(0, 0, 1), 2);
        due("the former one", x.in(0, 0, 2), 0);
        due("in the ring 1 no canary", x.in(1, 0, 1), NONE);
    }

    @Says(promise = 29, value = "-1 if there is none")
    static void p29_noneAtFirst() {
        RolloutHall x = hall(builds(1));
        for (int i = 0; i < 12; i++) {
            due("in", x.in(i / 3, 0, i % 3), -1);
        }
    }

    @Says(promise = 29, value = "Returns that.")
    static void p29_theLastBuild() {
        RolloutHall x = hall(builds(24), run(23, 1));
        due("23", x.in(0, 0, 0), 23);
    }

    @Says(promise = 29, value = "Throws `IndexOutOfBoundsException` if there is no such ring or service")
    static void p29_noSuchRingOrService() {
        noSuch(NOTHING, x -> x.in(0, 0, 0));
        noSuch(services(2), x -> x.in(-1, 0, 0), x -> x.in(4, 0, 0), x -> x.in(LEAST, 0, 0), x -> x.in(GREATEST, 0, 0),
                x -> x.in(0, -1, 0), x -> x.in(0, 2, 0), x -> x.in(0, LEAST, 0), x -> x.in(0, GREATEST, 0));
        noSuch(services(5), x -> x.in(0, 5, 0));
    }

    @Says(promise = 29, value = "Throws `IllegalArgumentException` if what is out of range")
    static void p29_whatOutOfRange() {
        outOfRange(services(1), x -> x.in(0, 0, -1), x -> x.in(0, 0, 3), x -> x.in(0, 0, LEAST),
                x -> x.in(3, 0, GREATEST));
    }

    @Says(promise = 29, value = SEVERAL)
    static void p29_firstOfSeveral() {
        noSuch(services(1), x -> x.in(4, 0, 3), x -> x.in(0, 1, -1), x -> x.in(-1, -1, -1));
    }

    @Says(promise = 29, value = UNCHANGED)
    static void p29_refusedChangesNothing() {
        RolloutHall x = hall(builds(1), run(0, 1));
        Check.noSuch("no ring 4", () -> x.in(4, 0, 0));
        Check.outOfRange("what 3", () -> x.in(0, 0, 3));
        due("as ahead of it", x.in(0, 0, 0), 0);
    }

    // ---- promise 30: isSound

    @Says(promise = 30, value = "Returns whether a ring is sound.")
    static void p30_askingChangesNothing() {
        changesNothing(all(Edges::pair, run(0, 2), run(2, 1)), x -> x.isSound(0), x -> x.isSound(3));
    }

    @Says(promise = 30, value = "`ring`: 0 to 3")
    static void p30_ringSmallestAndGreatest() {
        RolloutHall x = new RolloutHall();
        due("0", x.isSound(0), true);
        due("3", x.isSound(3), true);
    }

    @Says(promise = 30, value = "Returns true if it is.")
    static void p30_emptyAndFull() {
        due("without services", new RolloutHall().isSound(0), true);
        due("with a need, but no build", hall(Edges::pair).isSound(0), true);
        RolloutHall x = hall(services(5), y -> y.needs(0, 1), y -> y.needs(1, 2), y -> y.needs(2, 3), y -> y.needs(3, 4));
        for (int build = 0; build < 5; build++) {
            x.build(4 - build, 0);
        }
        for (int build = 0; build < 5; build++) {
            Halls.roll(x, build, 1);
            due("with " + build, x.isSound(0), true);
            due("the next ring", x.isSound(1), true);
        }
    }

    @Says(promise = 30, value = "each build that runs there, or is a canary there, goes together with each one that runs, "
            + "or is a canary, of each service that its own one needs, and some build of each of these runs.")
    static void p30_staysSoundWhateverIsTried() {
        RolloutHall x = hall(Edges::pair, run(0, 4), y -> y.accepts(2, 0, 0, 0), run(2, 4));
        due("a canary is refused", Halls.tryCanary(x, 1), 5);
        due("sound", x.isSound(0), true);
        x.condemn(0);
        due("a condemned one runs", x.isSound(0), true);
        x.condemn(2);
        due("two of them", x.isSound(3), true);
        RolloutHall y = hall(Edges::pair, run(0, 1), run(2, 1), z -> z.back(0));
        due("halted", y.isSound(0), true);
    }

    @Says(promise = 30, value = "Throws `IndexOutOfBoundsException` if there is no such ring")
    static void p30_noSuchRing() {
        noSuch(NOTHING, x -> x.isSound(-1), x -> x.isSound(4), x -> x.isSound(LEAST), x -> x.isSound(GREATEST));
    }

    @Says(promise = 30, value = UNCHANGED)
    static void p30_refusedChangesNothing() {
        RolloutHall x = hall(builds(1), run(0, 1));
        Check.noSuch("no ring 4", () -> x.isSound(4));
        due("sound", x.isSound(0), true);
        due("what runs", x.in(0, 0, 0), 0);
    }

    // ---- promise 31: rolling

    @Says(promise = 31, value = "Returns how the roll-out of a service is.")
    static void p31_askingChangesNothing() {
        changesNothing(all(builds(2), run(0, 4), run(1, 2)), x -> x.rolling(0));
    }

    @Says(promise = 31, value = "`service`: a service")
    static void p31_serviceSmallestAndGreatest() {
        RolloutHall x = hall(services(5), y -> y.build(4, 0), y -> y.build(0, 0), y -> y.begin(0), y -> y.begin(1));
        due("0", x.rolling(0), 10);
        due("4", x.rolling(4), 0);
        due("3", x.rolling(3), NONE);
    }

    @Says(promise = 31, value = "Returns 10 * its build + 4 if it is halted, otherwise the ring in which it is a canary, or "
            + "becomes one; -1 if there is none.")
    static void p31_eachRingAndHalted() {
        for (int ring = 0; ring < 4; ring++) {
            Told rolling = all(builds(24), run(0, 4), run(23, ring));
            due("becomes a canary", hall(rolling).rolling(0), 230 + ring);
            due("is a canary", hall(rolling, x -> x.step(0)).rolling(0), 230 + ring);
            due("halted, or over", hall(rolling, x -> x.condemn(0), x -> x.back(0)).rolling(0), ring == 0 ? -1 : 234);
            due("gone back", hall(rolling, x -> x.back(0)).rolling(0), -1);
        }
    }

    @Says(promise = 31, value = "10 * its build + 4 if it is halted")
    static void p31_haltedOfTheBuild0() {
        RolloutHall x = hall(Edges::pair, run(0, 2), run(2, 1), y -> y.back(0));
        due("halted", x.rolling(0), 4);
        due("one ring is left", x.in(1, 0, 0), NONE);
    }

    @Says(promise = 31, value = "-1 if there is none")
    static void p31_none() {
        due("never", hall(builds(1)).rolling(0), -1);
        due("over", hall(builds(1), run(0, 4)).rolling(0), -1);
    }

    @Says(promise = 31, value = "Throws `IndexOutOfBoundsException` if there is no such service")
    static void p31_noSuchService() {
        noSuch(NOTHING, x -> x.rolling(0));
        noSuch(builds(2), x -> x.rolling(1), x -> x.rolling(-1), x -> x.rolling(LEAST), x -> x.rolling(GREATEST));
        noSuch(services(5), x -> x.rolling(5));
    }

    @Says(promise = 31, value = UNCHANGED)
    static void p31_refusedChangesNothing() {
        RolloutHall x = hall(builds(1), run(0, 2));
        Check.noSuch("no service 1", () -> x.rolling(1));
        due("as ahead of it", x.rolling(0), 2);
    }

    // ---- promise 32: plan

    /** How many changes, and the builds to which they go. */
    private static String plan(RolloutHall x, int ring, int build) {
        int changes = x.plan(ring, build);
        StringBuilder text = new StringBuilder().append(changes).append(':');
        for (int change = 0; change < changes; change++) {
            text.append(' ').append(x.planned(change));
        }
        Check.noSuch("a change more", () -> x.planned(Math.max(0, changes)));
        return text.toString();
    }

    @Says(promise = 32, value = "Finds a plan.")
    static void p32_theHallStaysAsItIs() {
        RolloutHall x = hall(Edges::pair, run(0, 1));
        due("a plan", plan(x, 0, 2), "1: 2");
        due("what runs", x.in(0, 1, 0), NONE);
        due("the same again", plan(x, 0, 2), "1: 2");
    }

    @Says(promise = 32, value = "`ring`: 0 to 3")
    static void p32_ringSmallestAndGreatest() {
        RolloutHall x = hall(builds(2), run(0, 4), run(1, 3));
        due("0", plan(x, 0, 0), "1: 0");
        due("3", plan(x, 3, 0), "0:");
        due("2", plan(x, 2, 1), "0:");
        due("3", plan(x, 3, 1), "1: 1");
    }

    @Says(promise = 32, value = "`build`: a build")
    static void p32_buildSmallestAndGreatest() {
        RolloutHall x = hall(builds(24));
        due("0", plan(x, 0, 0), "1: 0");
        due("23", plan(x, 0, 23), "1: 23");
    }

    @Says(promise = 32, value = "A plan for a ring and a build: the fewest changes of single builds")
    static void p32_theFewestChanges() {
        RolloutHall x = hall(services(2), y -> y.needs(0, 1), times(5, y -> y.build(1, 3)), times(5, y -> y.build(0, 0)));
        due("lower builds would take more", plan(x, 0, 4), "1: 4");
        due("two are enough", plan(x, 0, 9), "2: 0 9");
    }

    @Says(promise = 32, value = ", each of them to any build of its service that is not condemned and of which all columns "
            + "are whole (or from none to one)")
    static void p32_notCondemnedAndAllColumnsWhole() {
        Told two = all(services(2), x -> x.needs(1, 0), times(2, x -> x.build(0, 0)), x -> x.build(1, 0));
        due("any", plan(hall(two), 0, 2), "2: 0 2");
        due("not a condemned one", plan(hall(two, x -> x.condemn(0)), 0, 2), "2: 1 2");
        due("both are", plan(hall(two, x -> x.condemn(0), x -> x.condemn(1)), 0, 2), "-1:");
        due("the last one is", plan(hall(two, x -> x.condemn(2)), 0, 2), "-1:");
        due("not any more", plan(hall(two, x -> x.condemn(2), x -> x.condemn(2)), 0, 2), "2: 0 2");
        Told used = all(two, x -> x.uses(0, 4));
        due("absent", plan(hall(used), 0, 2), "2: 1 2");
        due("at 0", plan(hall(used, x -> x.column(4, 1)), 0, 2), "2: 1 2");
        due("at 99", plan(hall(used, x -> x.column(4, 1), x -> x.column(4, 99)), 0, 2), "2: 1 2");
        due("whole", plan(hall(used, whole(4)), 0, 2), "2: 0 2");
        due("gone", plan(hall(used, whole(4), x -> x.column(4, -1)), 0, 2), "2: 1 2");
        due("one of two", plan(hall(used, whole(4), x -> x.uses(0, 3)), 0, 2), "2: 1 2");
    }

    @Says(promise = 32, value = "(or from none to one)")
    static void p32_neverFromOneToNone() {
        RolloutHall x = hall(Edges::pair, y -> y.accepts(2, 0, 0, 0), run(0, 1), run(2, 1), y -> y.condemn(3));
        due("what runs is in the way", plan(x, 0, 1), "-1:");
        x.condemn(3);
        due("another one in its place", plan(x, 0, 1), "2: 3 1");
        due("where none runs", plan(x, 1, 1), "1: 1");
    }

    @Says(promise = 32, value = ", by which that build runs there")
    static void p32_thatBuildIsTheLastChange() {
        Told three = all(services(3), x -> x.build(2, 0), x -> x.build(1, 0), x -> x.build(0, 0));
        due("nothing else is needed", plan(hall(three), 0, 0), "1: 0");
        due("nor for the last one", plan(hall(three), 0, 2), "1: 2");
    }

    /** Levels 0 to 9 of the service 0 are the builds 0 to 9; of 1, 10 + i accepts just i and i + 1. Two run. */
    private static void zigzag(RolloutHall x, int first, int second) {
        x.service();
        x.service();
        x.needs(1, 0);
        for (int level = 0; level < 10; level++) {
            x.build(0, level);
        }
        for (int low = 0; low < 9; low++) {
            x.build(1, 0);
            x.accepts(10 + low, 0, low, low + 1);
        }
        all(run(first, 1), run(second, 1)).to(x);
    }

    @Says(promise = 32, value = SOUND)
    static void p32_soundBetweenAllChanges() {
        RolloutHall x = hall(y -> zigzag(y, 0, 10));
        due("the next one", plan(x, 0, 1), "1: 1");
        due("over one more", plan(x, 0, 2), "3: 1 11 2");
        due("up to the last one", plan(x, 0, 9), "17: 1 11 2 12 3 13 4 14 5 15 6 16 7 17 8 18 9");
        x.condemn(14);
        due("the way is cut", plan(x, 0, 9), "-1:");
        due("ahead of that", plan(x, 0, 4), "7: 1 11 2 12 3 13 4");
    }

    @Says(promise = 32, value = SOUND)
    static void p32_soundBetweenAllChangesDownwards() {
        RolloutHall x = hall(y -> zigzag(y, 9, 18));
        due("down to the first one", plan(x, 0, 0), "17: 8 17 7 16 6 15 5 14 4 13 3 12 2 11 1 10 0");
        RolloutHall middle = hall(y -> zigzag(y, 5, 14));
        due("down", plan(middle, 0, 3), "3: 4 13 3");
        due("up", plan(middle, 0, 7), "4: 15 6 16 7");
    }

    @Says(promise = 32, value = SOUND)
    static void p32_neededOnesFirst() {
        RolloutHall x = hall(services(5), y -> y.needs(0, 1), y -> y.needs(1, 2), y -> y.needs(2, 3), y -> y.needs(3, 4));
        for (int build = 0; build < 5; build++) {
            x.build(build, 0);
        }
        due("from the last one", plan(x, 0, 0), "5: 4 3 2 1 0");
        RolloutHall y = hall(services(2), z -> z.needs(0, 1), z -> z.needs(1, 0), z -> z.build(0, 0), z -> z.build(1, 0));
        due("neither can be first", plan(y, 0, 0), "-1:");
        due("nor the other", plan(y, 0, 1), "-1:");
    }

    @Says(promise = 32, value = "; of several plans the one whose first change is to the lowest build, then the second one, "
            + "and so on.")
    static void p32_theLowestFirst() {
        RolloutHall x = hall(services(3), y -> y.needs(0, 1), y -> y.needs(0, 2), y -> y.build(2, 0), y -> y.build(1, 0),
                y -> y.build(2, 0), y -> y.build(1, 0), y -> y.build(0, 0));
        due("both orders, all builds", plan(x, 0, 4), "3: 0 1 4");
        x.condemn(0);
        due("1 ahead of 2", plan(x, 0, 4), "3: 1 2 4");
        x.condemn(1);
        due("2 ahead of 3", plan(x, 0, 4), "3: 2 3 4");
        x.condemn(0);
        due("0 ahead of 3", plan(x, 0, 4), "3: 0 3 4");
    }

    @Says(promise = 32, value = "then the second one, and so on.")
    static void p32_theLowestSecondOne() {
        RolloutHall x = hall(services(3), y -> y.needs(0, 1), y -> y.needs(1, 2), y -> y.build(2, 5), y -> y.build(2, 6),
                y -> y.build(1, 5), y -> y.build(1, 6), y -> y.build(0, 0));
        x.accepts(2, 2, 6, 6);
        due("0 first, so 3 is second", plan(x, 0, 4), "3: 0 3 4");
        x.accepts(3, 2, 6, 6);
        due("1 first, so 2 is second", plan(x, 0, 4), "3: 1 2 4");
        x.accepts(4, 1, 6, 6);
        due("1 first, and just 3 second", plan(x, 0, 4), "3: 1 3 4");
    }

    @Says(promise = 32, value = "Canaries are left aside.")
    static void p32_canariesDoNotMatter() {
        RolloutHall x = hall(Edges::pair, y -> y.accepts(2, 0, 0, 0), run(0, 4), run(3, 4), y -> y.begin(2),
                y -> y.step(1));
        due("a canary", x.in(0, 1, 1), 2);
        due("it accepts 0 alone", plan(x, 0, 1), "1: 1");
        due("it does not run", plan(x, 0, 2), "1: 2");
        RolloutHall y = hall(Edges::pair, z -> z.begin(0), z -> z.step(0));
        due("a canary of a needed service", plan(y, 0, 2), "2: 0 2");
    }

    @Says(promise = 32, value = "(None is needed if it runs there already.)")
    static void p32_itRunsThereAlready() {
        RolloutHall x = hall(builds(2), run(0, 2));
        due("it runs", plan(x, 0, 0), "0:");
        due("not in this ring", plan(x, 2, 0), "1: 0");
        x.condemn(0);
        due("it runs, condemned", plan(x, 1, 0), "0:");
        due("condemned", plan(x, 2, 0), "-1:");
    }

    @Says(promise = 32, value = "Returns how many changes; -1 if there is no plan.")
    static void p32_noPlan() {
        due("no build that is accepted", plan(hall(Edges::pair, x -> x.accepts(2, 0, 5, 9)), 0, 2), "-1:");
        due("no build at all", plan(hall(services(2), x -> x.needs(0, 1), x -> x.build(0, 0)), 0, 0), "-1:");
    }

    @Says(promise = 32, value = "-1 if there is no plan")
    static void p32_noPlanAfterAllStates() {
        RolloutHall x = hall(services(5));
        for (int build = 0; build < 24; build++) {
            x.build(build % 5, 0);
        }
        due("one change", plan(x, 0, 23), "1: 23");
        x.condemn(23);
        due("none", plan(x, 0, 23), "-1:");
        due("none again", plan(x, 3, 23), "-1:");
        x.condemn(23);
        due("one change again", plan(x, 0, 23), "1: 23");
    }

    /** 24 builds, of levels that grow with the numbers; the build 20 needs just the greatest of all other services. */
    private static void greatest(RolloutHall x) {
        services(5).to(x);
        for (int other = 1; other < 5; other++) {
            x.needs(0, other);
        }
        for (int build = 0; build < 24; build++) {
            x.build(build % 5, build / 5);
        }
        for (int other = 1; other < 5; other++) {
            x.accepts(20, other, other == 4 ? 3 : 4, 9);
        }
    }

    @Says(promise = 32, value = "Returns how many changes")
    static void p32_overTheGreatestBuildsOfAllServices() {
        RolloutHall x = hall(EdgesOfAsking::greatest);
        due("none runs", plan(x, 0, 20), "5: 19 21 22 23 20");
        RolloutHall y = hall(EdgesOfAsking::greatest, run(1, 1), run(2, 1), run(3, 1), run(4, 1), run(0, 1));
        due("all run", plan(y, 0, 20), "5: 19 21 22 23 20");
        y.condemn(23);
        due("the last one is missing", plan(y, 0, 20), "-1:");
        due("all states were tried, and it goes on", plan(y, 0, 15), "1: 15");
    }

    @Says(promise = 32, value = "Throws `IndexOutOfBoundsException` if there is no such ring or build")
    static void p32_noSuchRingOrBuild() {
        noSuch(NOTHING, x -> x.plan(0, 0));
        noSuch(builds(2), x -> x.plan(-1, 0), x -> x.plan(4, 0), x -> x.plan(LEAST, 0), x -> x.plan(GREATEST, 0),
                x -> x.plan(0, -1), x -> x.plan(0, 2), x -> x.plan(0, LEAST), x -> x.plan(0, GREATEST));
        noSuch(builds(24), x -> x.plan(0, 24));
    }

    @Says(promise = 32, value = UNCHANGED)
    static void p32_refusedChangesNothing() {
        RolloutHall x = hall(Edges::pair, y -> y.plan(0, 2));
        Check.noSuch("no ring 4", () -> x.plan(4, 0));
        Check.noSuch("no build 4", () -> x.plan(0, 4));
        due("the plan of the last call that was answered", x.planned(0), 0);
        due("its second change", x.planned(1), 2);
    }

    // ---- promise 33: planned

    @Says(promise = 33, value = "Returns the build to which a change of the plan that was found last goes.")
    static void p33_ofThePlanThatWasFoundLast() {
        RolloutHall x = hall(Edges::pair, y -> y.plan(0, 2), y -> y.plan(0, 1));
        due("of the last one", x.planned(0), 1);
        Check.noSuch("the former one had two", () -> x.planned(1));
        x.plan(0, 3);
        x.condemn(0);
        x.build(0, 0);
        Halls.roll(x, 1, 1);
        due("as it was found", x.planned(0), 0);
        due("as it was found", x.planned(1), 3);
    }

    @Says(promise = 33, value = "`change`: 0 for the first one")
    static void p33_changeSmallestAndGreatest() {
        RolloutHall x = hall(y -> zigzag(y, 0, 10), y -> y.plan(0, 9));
        due("the first one", x.planned(0), 1);
        due("the last one", x.planned(16), 9);
        due("in any order", x.planned(8), 5);
        Check.noSuch("behind the last one", () -> x.planned(17));
        Check.noSuch("ahead of the first one", () -> x.planned(-1));
    }

    @Says(promise = 33, value = "Returns the build.")
    static void p33_askingChangesNothing() {
        changesNothing(all(Edges::pair, x -> x.plan(0, 2)), x -> x.planned(0), x -> x.planned(1));
    }

    @Says(promise = 33, value = "Throws `IndexOutOfBoundsException` if there are not so many")
    static void p33_notSoMany() {
        noSuch(all(Edges::pair, x -> x.plan(0, 2)), x -> x.planned(2), x -> x.planned(-1), x -> x.planned(LEAST),
                x -> x.planned(GREATEST));
        noSuch(all(builds(1), x -> x.plan(0, 0)), x -> x.planned(1));
        noSuch(all(builds(1), run(0, 1), x -> x.plan(0, 0)), x -> x.planned(0));
    }

    @Says(promise = 33, value = ", or none was found, by the last call of plan()")
    static void p33_noneWasFound() {
        noSuch(NOTHING, x -> x.planned(0));
        noSuch(builds(1), x -> x.planned(0));
        noSuch(all(builds(1), x -> x.condemn(0), x -> x.plan(0, 0)), x -> x.planned(0));
        noSuch(all(Edges::pair, x -> x.plan(0, 2), x -> x.condemn(3), x -> x.plan(0, 3)), x -> x.planned(0));
    }

    @Says(promise = 33, value = UNCHANGED)
    static void p33_refusedChangesNothing() {
        RolloutHall x = hall(Edges::pair, y -> y.plan(0, 3));
        Check.noSuch("no third change", () -> x.planned(2));
        Check.noSuch("no change -1", () -> x.planned(-1));
        due("the first one", x.planned(0), 0);
        due("the second one", x.planned(1), 3);
    }

    // ---- the sentences on all calls

    @Says(promise = 29, value = "IndexOutOfBoundsException is thrown for a service, build, ring, column, flag, incident or "
            + "person that does not exist; IllegalArgumentException for another argument out of range; and "
            + "IllegalStateException if a call is not possible now.")
    static void p29_eachKindOfException() {
        noSuch(NOTHING, x -> x.in(0, 0, 0), x -> x.condemn(0), x -> x.isSound(4), x -> x.column(5, 1), x -> x.kill(0),
                x -> x.close(0), x -> x.standIn(0, 1));
        outOfRange(services(1), x -> x.in(0, 0, 3), x -> x.needs(0, 0), x -> x.build(0, 10), x -> x.column(0, 101),
                x -> x.freeze(0, 1, 1), x -> x.budget(0, 0), x -> x.flag(4, 0, 1, -1), x -> x.see(1000),
                x -> x.standIn(21, 0), x -> x.alert(0, 4), x -> x.pass(601));
        notNow(services(1), x -> x.step(0), x -> x.back(0), x -> x.requests(0, 0, true, 0, 0), x -> x.column(0, -1));
    }
}
