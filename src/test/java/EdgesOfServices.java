/** Edges of the promises 1 to 8: a new object, services, builds, columns. */
final class EdgesOfServices extends Edges {

    // ---- promise 1: a new object

    @Says(promise = 1, value = "Creates it without services")
    static void p01_withoutServices() {
        noSuch(NOTHING, x -> x.rolling(0), x -> x.used(0), x -> x.except(0), x -> x.build(0, 0), x -> x.in(0, 0, 0));
        due("the first number", new RolloutHall().service(), 0);
    }

    @Says(promise = 1, value = ", at the minute 0")
    static void p01_atTheMinute0() {
        due("one minute on", new RolloutHall().pass(1), 1);
        RolloutHall x = hall(builds(1), y -> y.freeze(-1, 0, 1), y -> y.begin(0));
        due("a freeze of the minute 0 alone", x.step(0), 1);
    }

    @Says(promise = 1, value = ", with one person.")
    static void p01_withOnePerson() {
        noSuch(NOTHING, x -> x.standIn(0, 1));
        due("the person 0", new RolloutHall().standIn(20, 0), 0);
        due("one more", new RolloutHall().person(), 2);
    }

    @Says(promise = 1, value = "The constants: `NONE = -1`: None.")
    static void p01_theConstant() {
        due("NONE", RolloutHall.NONE, -1);
    }

    // ---- promise 2: service

    @Says(promise = 2, value = "Adds a service.")
    static void p02_addsOneService() {
        RolloutHall x = hall(services(1));
        due("it is there", x.rolling(0), NONE);
        Check.noSuch("one alone", () -> x.rolling(1));
    }

    @Says(promise = 2, value = "Returns its number.")
    static void p02_numbersOneAfterTheOther() {
        RolloutHall x = new RolloutHall();
        for (int service = 0; service < 5; service++) {
            due("service()", x.service(), service);
        }
    }

    @Says(promise = 2, value = "Services are numbered from 0, at most 5.")
    static void p02_fromZeroAndAtMostFive() {
        RolloutHall x = hall(services(5));
        due("the smallest number", x.rolling(0), NONE);
        due("the greatest number", x.rolling(4), NONE);
        Check.noSuch("below", () -> x.rolling(-1));
        Check.noSuch("above", () -> x.rolling(5));
    }

    @Says(promise = 2, value = "Throws `IllegalStateException` if there are 5")
    static void p02_thereAreFive() {
        due("the last one that is taken", hall(services(4)).service(), 4);
        notNow(services(5), x -> x.service());
    }

    @Says(promise = 2, value = UNCHANGED)
    static void p02_refusedChangesNothing() {
        RolloutHall x = hall(services(5));
        Check.notNow("there are 5", () -> x.service());
        Check.noSuch("no sixth one", () -> x.budget(5, 1));
        due("the fifth one needs none", x.needs(4, 0), 1);
    }

    // ---- promise 3: needs

    @Says(promise = 3, value = "Tells that a service needs another one.")
    static void p03_itIsNeededFromThenOn() {
        RolloutHall x = hall(services(2), y -> y.needs(0, 1), y -> y.build(0, 0), y -> y.build(1, 0));
        due("what needs cannot be first", Halls.tryCanary(x, 0), 5);
        due("what is needed can", Halls.tryCanary(x, 1), 0);
    }

    @Says(promise = 3, value = "`service`: a service")
    static void p03_serviceSmallestAndGreatest() {
        due("0", hall(services(5)).needs(0, 2), 1);
        due("4", hall(services(5)).needs(4, 2), 1);
    }

    @Says(promise = 3, value = "`other`: another one")
    static void p03_otherSmallestAndGreatest() {
        due("0", hall(services(5)).needs(2, 0), 1);
        due("4", hall(services(5)).needs(2, 4), 1);
    }

    @Says(promise = 3, value = "Returns how many it needs then.")
    static void p03_countsFromOneToFour() {
        RolloutHall x = hall(services(5));
        for (int other = 0; other < 4; other++) {
            due("needs(4, " + other + ")", x.needs(4, other), other + 1);
        }
        due("of another service", x.needs(0, 4), 1);
    }

    @Says(promise = 3, value = "Throws `IndexOutOfBoundsException` if there is no such service, of either")
    static void p03_noSuchServiceOfEither() {
        noSuch(services(3), x -> x.needs(-1, 0), x -> x.needs(3, 0), x -> x.needs(LEAST, 0),
                x -> x.needs(GREATEST, 0), x -> x.needs(0, -1), x -> x.needs(0, 3), x -> x.needs(0, LEAST),
                x -> x.needs(0, GREATEST), x -> x.needs(3, 4));
        noSuch(NOTHING, x -> x.needs(0, 1));
        noSuch(services(1), x -> x.needs(0, 1), x -> x.needs(1, 0));
        noSuch(services(5), x -> x.needs(0, 5), x -> x.needs(5, 0));
    }

    @Says(promise = 3, value = "A service may need others, not itself.")
    static void p03_othersAndNotItself() {
        RolloutHall x = hall(services(2));
        due("one way", x.needs(0, 1), 1);
        due("and the other way", x.needs(1, 0), 1);
        outOfRange(services(2), y -> y.needs(0, 0));
    }

    @Says(promise = 3, value = "Throws `IllegalArgumentException` if both are the same")
    static void p03_bothAreTheSame() {
        outOfRange(services(5), x -> x.needs(0, 0), x -> x.needs(2, 2), x -> x.needs(4, 4));
    }

    @Says(promise = 3, value = "Throws `IllegalStateException` if it needs it already")
    static void p03_itNeedsItAlready() {
        notNow(all(services(3), x -> x.needs(0, 1)), x -> x.needs(0, 1));
        notNow(all(services(3), x -> x.needs(0, 1), x -> x.needs(0, 2)), x -> x.needs(0, 1), x -> x.needs(0, 2));
        RolloutHall x = hall(services(3), y -> y.needs(0, 1));
        due("the other way is not yet so", x.needs(1, 0), 1);
        due("of a third one is not yet so", x.needs(2, 1), 1);
    }

    @Says(promise = 3, value = ", or builds of either were made")
    static void p03_buildsOfEitherWereMade() {
        notNow(all(services(3), x -> x.build(0, 0)), x -> x.needs(0, 1), x -> x.needs(1, 0));
        notNow(all(services(2), x -> x.build(0, 0), x -> x.build(1, 0)), x -> x.needs(0, 1));
        RolloutHall x = hall(services(3), times(23, y -> y.build(2, 0)));
        due("builds of a third one", x.needs(0, 1), 1);
        x.build(1, 0);
        Check.notNow("the last one of 24 is of it", () -> x.needs(1, 0));
    }

    @Says(promise = 3, value = SEVERAL)
    static void p03_firstOfSeveral() {
        noSuch(all(services(2), x -> x.build(0, 0)), x -> x.needs(2, 2), x -> x.needs(-1, -1), x -> x.needs(0, 2));
        outOfRange(all(services(2), x -> x.build(0, 0)), x -> x.needs(0, 0));
    }

    @Says(promise = 3, value = UNCHANGED)
    static void p03_refusedChangesNothing() {
        RolloutHall x = hall(services(4), y -> y.needs(0, 1), y -> y.build(2, 0));
        Check.noSuch("no such service", () -> x.needs(0, 4));
        Check.outOfRange("both the same", () -> x.needs(0, 0));
        Check.notNow("already", () -> x.needs(0, 1));
        Check.notNow("builds were made", () -> x.needs(0, 2));
        due("the second one", x.needs(0, 3), 2);
        due("what is not needed need not run", Halls.tryCanary(x, 0), 0);
    }

    // ---- promise 4: build

    @Says(promise = 4, value = "Makes a build.")
    static void p04_makesOneBuild() {
        RolloutHall x = hall(builds(1));
        due("it is there", x.begin(0), 0);
        Check.noSuch("one alone", () -> x.begin(1));
    }

    @Says(promise = 4, value = "`service`: a service")
    static void p04_serviceSmallestAndGreatest() {
        RolloutHall x = hall(services(5), y -> y.build(4, 0), y -> y.build(0, 0));
        due("of the service 4", x.begin(0), 4);
        due("of the service 0", x.begin(1), 0);
    }

    @Says(promise = 4, value = "`level`: 0 to 9")
    static void p04_levelSmallestAndGreatest() {
        due("0", hall(services(1)).build(0, 0), 0);
        due("9", hall(services(1)).build(0, 9), 0);
    }

    @Says(promise = 4, value = "Returns its number.")
    static void p04_numbersOfAllServices() {
        RolloutHall x = hall(services(3));
        for (int build = 0; build < 24; build++) {
            due("build()", x.build(build % 3, build % 10), build);
        }
    }

    @Says(promise = 4, value = "Builds are numbered from 0, at most 24.")
    static void p04_fromZeroAndAtMost24() {
        RolloutHall x = hall(services(2), y -> y.build(1, 0), times(22, y -> y.build(0, 0)), y -> y.build(1, 0));
        due("the smallest number", x.condemn(0), true);
        due("the greatest number", x.condemn(23), true);
        Check.noSuch("below", () -> x.condemn(-1));
        Check.noSuch("above", () -> x.condemn(24));
    }

    @Says(promise = 4, value = "Throws `IndexOutOfBoundsException` if there is no such service")
    static void p04_noSuchService() {
        noSuch(NOTHING, x -> x.build(0, 0));
        noSuch(services(2), x -> x.build(2, 0), x -> x.build(-1, 0), x -> x.build(LEAST, 0), x -> x.build(GREATEST, 0));
        noSuch(services(5), x -> x.build(5, 0));
    }

    @Says(promise = 4, value = "Throws `IllegalArgumentException` if level is out of range")
    static void p04_levelOutOfRange() {
        outOfRange(services(1), x -> x.build(0, -1), x -> x.build(0, 10), x -> x.build(0, LEAST),
                x -> x.build(0, GREATEST));
    }

    @Says(promise = 4, value = "Throws `IllegalStateException` if there are 24")
    static void p04_thereAre24() {
        due("the last one that is taken", hall(builds(23)).build(0, 9), 23);
        notNow(builds(24), x -> x.build(0, 0));
        notNow(all(services(2), times(24, x -> x.build(0, 0))), x -> x.build(1, 9));
    }

    @Says(promise = 4, value = SEVERAL)
    static void p04_firstOfSeveral() {
        noSuch(builds(24), x -> x.build(1, 10), x -> x.build(1, 0), x -> x.build(-1, -1));
        outOfRange(builds(24), x -> x.build(0, 10), x -> x.build(0, -1));
    }

    @Says(promise = 4, value = UNCHANGED)
    static void p04_refusedChangesNothing() {
        RolloutHall x = hall(builds(23));
        Check.noSuch("no such service", () -> x.build(1, 0));
        Check.outOfRange("level 10", () -> x.build(0, 10));
        due("the next number", x.build(0, 0), 23);
        Check.notNow("there are 24", () -> x.build(0, 0));
        Check.noSuch("no build 24", () -> x.begin(24));
    }

    // ---- promise 5: accepts

    /** The service 0 needs the service 1; the builds 0 to 9 are of 1, with the levels 0 to 9; 10 is of 0. */
    private static void levels(RolloutHall x) {
        x.service();
        x.service();
        x.needs(0, 1);
        for (int level = 0; level < 10; level++) {
            x.build(1, level);
        }
        x.build(0, 0);
    }

    /** The build 10 must go together with just the levels from lowest to highest. */
    private static void acceptsJust(int lowest, int highest, Told... told) {
        for (int level = 0; level < 10; level++) {
            RolloutHall x = hall(EdgesOfServices::levels, all(told), run(level, 1));
            due("the level " + level, Halls.tryCanary(x, 10), level >= lowest && level <= highest ? 0 : 5);
        }
    }

    @Says(promise = 5, value = "Tells which levels of a service a build accepts.")
    static void p05_lastToldHolds() {
        acceptsJust(3, 6, x -> x.accepts(10, 1, 3, 6));
        acceptsJust(0, 2, x -> x.accepts(10, 1, 9, 9), x -> x.accepts(10, 1, 0, 2));
        acceptsJust(4, 9, x -> x.accepts(10, 1, 5, 5), x -> x.accepts(10, 1, 4, 9));
    }

    @Says(promise = 5, value = "A build is of a service, has a level, 0 to 9, and accepts of each service that its own "
            + "one needs the levels from a lowest to a highest one, 0 to 9 at first.")
    static void p05_allLevelsAtFirst() {
        acceptsJust(0, 9);
    }

    @Says(promise = 5, value = "In a ring two builds go together, the first of a service that needs that of the second "
            + "one, if the first one accepts the level of the second one.")
    static void p05_onlyTheFirstOneHasToAccept() {
        Told two = all(services(2), x -> x.needs(0, 1), x -> x.build(0, 0), x -> x.build(1, 9));
        due("the second one's level", hall(two, x -> x.accepts(0, 1, 9, 9)).plan(0, 0), 2);
        due("not its own level", hall(two, x -> x.accepts(0, 1, 0, 0)).plan(0, 0), NONE);
        due("the second one accepts nothing", hall(two, x -> x.accepts(0, 1, 9, 9), run(1, 1)).plan(0, 0), 1);
        notNow(two, x -> x.accepts(1, 0, 0, 9));
    }

    @Says(promise = 5, value = "`build`: a build")
    static void p05_buildSmallestAndGreatest() {
        RolloutHall x = hall(services(2), y -> y.needs(0, 1), y -> y.build(0, 0), times(22, y -> y.build(1, 0)));
        x.build(0, 0);
        x.accepts(0, 1, 1, 9);
        due("the build 0", x.plan(0, 0), NONE);
        due("the build 23 not yet", x.plan(0, 23), 2);
        x.accepts(23, 1, 1, 9);
        due("the build 23", x.plan(0, 23), NONE);
    }

    @Says(promise = 5, value = "`other`: a service that its own one needs")
    static void p05_otherSmallestAndGreatest() {
        Told five = all(services(5), x -> x.needs(2, 0), x -> x.needs(2, 4), x -> x.build(0, 5),
                x -> x.build(4, 5), x -> x.build(2, 0));
        RolloutHall x = hall(five);
        due("both accepted at first", x.plan(0, 2), 3);
        x.accepts(2, 0, 0, 4);
        due("of the service 0", x.plan(0, 2), NONE);
        x.accepts(2, 0, 0, 9);
        x.accepts(2, 4, 6, 9);
        due("of the service 4", x.plan(0, 2), NONE);
    }

    @Says(promise = 5, value = "`lowest`: 0 to 9")
    static void p05_lowestSmallestAndGreatest() {
        acceptsJust(0, 5, x -> x.accepts(10, 1, 0, 5));
        acceptsJust(9, 9, x -> x.accepts(10, 1, 9, 9));
    }

    @Says(promise = 5, value = "`highest`: lowest to 9")
    static void p05_highestSmallestAndGreatest() {
        acceptsJust(0, 0, x -> x.accepts(10, 1, 0, 0));
        acceptsJust(4, 4, x -> x.accepts(10, 1, 4, 4));
        acceptsJust(4, 9, x -> x.accepts(10, 1, 4, 9));
    }

    @Says(promise = 5, value = "Throws `IndexOutOfBoundsException` if there is no such build or service")
    static void p05_noSuchBuildOrService() {
        noSuch(Edges::pair, x -> x.accepts(-1, 0, 0, 9), x -> x.accepts(4, 0, 0, 9), x -> x.accepts(LEAST, 0, 0, 9),
                x -> x.accepts(GREATEST, 0, 0, 9), x -> x.accepts(2, -1, 0, 9), x -> x.accepts(2, 2, 0, 9),
                x -> x.accepts(2, LEAST, 0, 9), x -> x.accepts(2, GREATEST, 0, 9));
        noSuch(services(2), x -> x.accepts(0, 0, 0, 9));
    }

    @Says(promise = 5, value = "Throws `IllegalArgumentException` if lowest or highest is out of range")
    static void p05_lowestOrHighestOutOfRange() {
        Told some = all(Edges::pair, x -> x.accepts(2, 0, 1, 8));
        outOfRange(some, x -> x.accepts(2, 0, -1, 5), x -> x.accepts(2, 0, 10, 10), x -> x.accepts(2, 0, LEAST, 5),
                x -> x.accepts(2, 0, GREATEST, GREATEST), x -> x.accepts(2, 0, -1, -1));
        outOfRange(some, x -> x.accepts(2, 0, 5, 4), x -> x.accepts(2, 0, 5, 10), x -> x.accepts(2, 0, 1, 0),
                x -> x.accepts(2, 0, 9, 8), x -> x.accepts(2, 0, 9, 10), x -> x.accepts(2, 0, 0, -1),
                x -> x.accepts(2, 0, 0, GREATEST), x -> x.accepts(2, 0, 0, LEAST));
    }

    @Says(promise = 5, value = "Throws `IllegalStateException` if its service does not need the other one")
    static void p05_doesNotNeedTheOtherOne() {
        notNow(Edges::pair, x -> x.accepts(0, 1, 0, 9), x -> x.accepts(0, 0, 0, 9), x -> x.accepts(2, 1, 0, 9));
        notNow(all(services(3), x -> x.needs(0, 1), x -> x.needs(1, 2), x -> x.build(0, 0)),
                x -> x.accepts(0, 2, 0, 9));
    }

    @Says(promise = 5, value = ", or it runs, or is a canary, somewhere")
    static void p05_itRunsOrIsACanarySomewhere() {
        Told needed = all(Edges::pair, run(0, 4));
        notNow(all(needed, x -> x.begin(2), x -> x.step(1)), x -> x.accepts(2, 0, 0, 9));
        notNow(all(needed, run(2, 1)), x -> x.accepts(2, 0, 0, 9));
        notNow(all(needed, run(2, 4)), x -> x.accepts(2, 0, 0, 9));
        notNow(all(needed, run(2, 4), run(3, 3)), x -> x.accepts(2, 0, 0, 9), x -> x.accepts(3, 0, 0, 9));
    }

    @Says(promise = 5, value = ", or it runs, or is a canary, somewhere")
    static void p05_itIsNowhere() {
        Told needed = all(Edges::pair, run(0, 1));
        hall(needed, x -> x.begin(2)).accepts(2, 0, 0, 9);
        hall(needed, x -> x.begin(2), x -> x.step(1), x -> x.back(1)).accepts(2, 0, 0, 9);
        hall(needed, run(2, 1), x -> x.back(1)).accepts(2, 0, 0, 9);
        hall(needed, run(2, 1)).accepts(3, 0, 0, 9);
        RolloutHall x = hall(Edges::pair, run(0, 4), run(2, 4), run(3, 4));
        due("the former one", x.in(3, 1, 2), 2);
        x.accepts(2, 0, 0, 9);
    }

    @Says(promise = 5, value = SEVERAL)
    static void p05_firstOfSeveral() {
        noSuch(Edges::pair, x -> x.accepts(4, 0, 5, 4), x -> x.accepts(0, 2, -1, 10), x -> x.accepts(4, 2, 0, 9));
        outOfRange(Edges::pair, x -> x.accepts(0, 1, 5, 4), x -> x.accepts(0, 0, -1, 0));
        outOfRange(all(Edges::pair, run(0, 1), run(2, 1)), x -> x.accepts(2, 0, 0, 10));
        noSuch(all(Edges::pair, run(0, 1), run(2, 1)), x -> x.accepts(2, 2, 0, 9));
    }

    @Says(promise = 5, value = UNCHANGED)
    static void p05_refusedChangesNothing() {
        acceptsJust(4, 6, x -> x.accepts(10, 1, 4, 6),
                x -> Check.outOfRange("7 to 6", () -> x.accepts(10, 1, 7, 6)),
                x -> Check.outOfRange("0 to 10", () -> x.accepts(10, 1, 0, 10)),
                x -> Check.outOfRange("-1 to 9", () -> x.accepts(10, 1, -1, 9)),
                x -> Check.noSuch("no such service", () -> x.accepts(10, 2, 0, 9)));
        RolloutHall x = hall(EdgesOfServices::levels, run(5, 4), run(10, 1));
        Check.notNow("it runs", () -> x.accepts(10, 1, 9, 9));
        x.begin(4);
        due("all levels are accepted still", x.step(1), 0);
    }

    // ---- promise 6: uses

    @Says(promise = 6, value = "Tells that a build uses a column.")
    static void p06_itIsUsedFromThenOn() {
        RolloutHall x = hall(builds(2), y -> y.uses(0, 3));
        due("absent", Halls.tryCanary(x, 0), 4);
        x.back(0);
        due("the other one uses none", Halls.tryCanary(x, 1), 0);
    }

    @Says(promise = 6, value = "It may use columns, and may be condemned.")
    static void p06_fromNoneToAllColumns() {
        RolloutHall x = hall(builds(1));
        for (int column = 0; column < 5; column++) {
            x.uses(0, column);
        }
        x.begin(0);
        for (int column = 0; column < 5; column++) {
            due("not yet " + column, x.step(0), 4);
            whole(column).to(x);
        }
        due("all are whole", x.step(0), 0);
        due("without columns", Halls.tryCanary(hall(builds(1)), 0), 0);
    }

    @Says(promise = 6, value = "`build`: a build")
    static void p06_buildSmallestAndGreatest() {
        RolloutHall x = hall(builds(24));
        x.uses(0, 0);
        x.uses(23, 0);
        due("the build 0", x.plan(0, 0), NONE);
        due("the build 23", x.plan(0, 23), NONE);
        due("another one", x.plan(0, 22), 1);
    }

    @Says(promise = 6, value = "`column`: 0 to 4")
    static void p06_columnSmallestAndGreatest() {
        for (int column = 0; column < 5; column += 4) {
            int used = column;
            RolloutHall x = hall(builds(1), y -> y.uses(0, used), y -> y.begin(0));
            due("absent", x.step(0), 4);
            whole(column).to(x);
            due("whole", x.step(0), 0);
        }
    }

    @Says(promise = 6, value = "Throws `IndexOutOfBoundsException` if there is no such build or column")
    static void p06_noSuchBuildOrColumn() {
        noSuch(builds(2), x -> x.uses(-1, 0), x -> x.uses(2, 0), x -> x.uses(LEAST, 0), x -> x.uses(GREATEST, 0),
                x -> x.uses(0, -1), x -> x.uses(0, 5), x -> x.uses(0, LEAST), x -> x.uses(0, GREATEST),
                x -> x.uses(0, 32));
        noSuch(NOTHING, x -> x.uses(0, 0));
        noSuch(builds(24), x -> x.uses(24, 0));
    }

    @Says(promise = 6, value = "Throws `IllegalStateException` if it uses it already")
    static void p06_itUsesItAlready() {
        notNow(all(builds(2), x -> x.uses(0, 0)), x -> x.uses(0, 0));
        notNow(all(builds(2), x -> x.uses(0, 4), x -> x.uses(0, 1)), x -> x.uses(0, 4), x -> x.uses(0, 1));
        RolloutHall x = hall(builds(2), y -> y.uses(0, 1));
        x.uses(0, 0);
        x.uses(0, 2);
        x.uses(1, 1);
        Check.notNow("now it does", () -> x.uses(1, 1));
    }

    @Says(promise = 6, value = ", or it runs, or is a canary, somewhere")
    static void p06_itRunsOrIsACanarySomewhere() {
        notNow(all(builds(2), x -> x.begin(0), x -> x.step(0)), x -> x.uses(0, 0));
        notNow(all(builds(2), run(0, 1)), x -> x.uses(0, 0));
        notNow(all(builds(2), run(0, 4)), x -> x.uses(0, 0));
        notNow(all(builds(2), run(0, 4), run(1, 3)), x -> x.uses(0, 0), x -> x.uses(1, 0));
    }

    @Says(promise = 6, value = ", or it runs, or is a canary, somewhere")
    static void p06_itIsNowhere() {
        hall(builds(2), x -> x.begin(0)).uses(0, 0);
        hall(builds(2), x -> x.begin(0), x -> x.step(0), x -> x.back(0)).uses(0, 0);
        hall(builds(2), run(0, 2), x -> x.back(0)).uses(0, 0);
        hall(builds(2), run(0, 4)).uses(1, 0);
        hall(builds(2), run(0, 4), run(1, 4)).uses(0, 0);
    }

    @Says(promise = 6, value = SEVERAL)
    static void p06_firstOfSeveral() {
        noSuch(all(builds(1), x -> x.uses(0, 0), run(0, 0)), x -> x.uses(0, 5), x -> x.uses(1, 0), x -> x.uses(1, 5));
        noSuch(all(builds(1), run(0, 1)), x -> x.uses(0, -1));
    }

    @Says(promise = 6, value = UNCHANGED)
    static void p06_refusedChangesNothing() {
        RolloutHall x = hall(builds(1), whole(0), y -> y.uses(0, 0), y -> y.begin(0));
        Check.notNow("it uses it already", () -> x.uses(0, 0));
        Check.noSuch("no column 5", () -> x.uses(0, 5));
        due("it uses it still", x.step(0), 0);
        Check.notNow("it is a canary", () -> x.uses(0, 1));
        x.requests(0, 0, true, 20, 0);
        due("no other one", x.step(0), 0);
        Check.notNow("it runs", () -> x.uses(0, 1));
        x.back(0);
        x.uses(0, 1);
        x.begin(0);
        due("now it does", x.step(0), 4);
    }

    // ---- promise 7: condemn

    @Says(promise = 7, value = "Condemns a build, or not any more.")
    static void p07_forthAndBack() {
        RolloutHall x = hall(builds(2), y -> y.condemn(0));
        Check.notNow("condemned", () -> x.begin(0));
        x.condemn(0);
        due("not any more", x.begin(0), 0);
        x.condemn(0);
        due("again", x.step(0), 4);
        x.condemn(0);
        due("not any more", x.step(0), 0);
    }

    @Says(promise = 7, value = "`build`: a build")
    static void p07_buildSmallestAndGreatest() {
        RolloutHall x = hall(builds(24));
        due("0", x.condemn(0), true);
        due("23", x.condemn(23), true);
        Check.notNow("the build 0", () -> x.begin(0));
        Check.notNow("the build 23", () -> x.begin(23));
        due("no other one", x.begin(22), 0);
    }

    @Says(promise = 7, value = "Returns true if it is condemned then.")
    static void p07_trueAndFalseInTurn() {
        RolloutHall x = hall(builds(1));
        for (int i = 0; i < 4; i++) {
            due("condemn", x.condemn(0), i % 2 == 0);
        }
        due("one that runs", hall(builds(1), run(0, 1)).condemn(0), true);
        due("a canary", hall(builds(1), y -> y.begin(0), y -> y.step(0)).condemn(0), true);
    }

    @Says(promise = 7, value = "Throws `IndexOutOfBoundsException` if there is no such build")
    static void p07_noSuchBuild() {
        noSuch(NOTHING, x -> x.condemn(0));
        noSuch(builds(2), x -> x.condemn(2), x -> x.condemn(-1), x -> x.condemn(LEAST), x -> x.condemn(GREATEST));
        noSuch(builds(24), x -> x.condemn(24));
    }

    @Says(promise = 7, value = UNCHANGED)
    static void p07_refusedChangesNothing() {
        RolloutHall x = hall(builds(1), y -> y.condemn(0));
        Check.noSuch("no build 1", () -> x.condemn(1));
        Check.noSuch("no build -1", () -> x.condemn(-1));
        due("it was condemned", x.condemn(0), false);
        x.build(0, 0);
        due("a new one is not", x.condemn(1), true);
    }

    // ---- promise 8: column

    private static Told filledTo(int column, int filled) {
        return all(x -> x.column(column, 1), filled > 0 ? x -> x.column(column, filled) : NOTHING);
    }

    @Says(promise = 8, value = "Adds a column that is absent, fills one, or takes one away.")
    static void p08_addedFilledTakenAway() {
        RolloutHall x = new RolloutHall();
        due("added", x.column(2, 50), 0);
        due("filled", x.column(2, 60), 60);
        due("whole", x.column(2, 40), 100);
        due("taken away", x.column(2, -1), -1);
    }

    @Says(promise = 8, value = "There are the columns 0 to 4: a column is absent at first, then added and filled to 0 of "
            + "100, then whole, at 100, then taken away for good.")
    static void p08_eachOneForItself() {
        RolloutHall x = new RolloutHall();
        for (int column = 0; column < 5; column++) {
            due("absent at first", x.column(column, 100), 0);
            due("filled from 0", x.column(column, 10 + column), 10 + column);
        }
        for (int column = 0; column < 5; column++) {
            due("filled on", x.column(column, 1), 11 + column);
            due("whole", x.column(column, 100), 100);
            due("taken away", x.column(column, -1), -1);
            int gone = column;
            Check.notNow("for good", () -> x.column(gone, 1));
        }
    }

    @Says(promise = 8, value = "`column`: 0 to 4")
    static void p08_columnSmallestAndGreatest() {
        due("0", new RolloutHall().column(0, 1), 0);
        due("4", new RolloutHall().column(4, 1), 0);
    }

    @Says(promise = 8, value = "`what`: 1 to 100: it is filled by so much more, 100 at most, or, if it is absent, added")
    static void p08_whatSmallestAndGreatest() {
        due("an absent one by 1", new RolloutHall().column(0, 1), 0);
        due("an absent one by 100", new RolloutHall().column(0, 100), 0);
        due("by 1", hall(filledTo(0, 0)).column(0, 1), 1);
        due("by 100", hall(filledTo(0, 0)).column(0, 100), 100);
        due("by 99", hall(filledTo(0, 0)).column(0, 99), 99);
    }

    @Says(promise = 8, value = "100 at most")
    static void p08_atMost100() {
        due("50 and 49", hall(filledTo(0, 50)).column(0, 49), 99);
        due("50 and 50", hall(filledTo(0, 50)).column(0, 50), 100);
        due("50 and 51", hall(filledTo(0, 50)).column(0, 51), 100);
        due("99 and 1", hall(filledTo(0, 99)).column(0, 1), 100);
        due("99 and 100", hall(filledTo(0, 99)).column(0, 100), 100);
    }

    @Says(promise = 8, value = "; -1: it is taken away")
    static void p08_whatMinusOne() {
        RolloutHall x = hall(whole(0), whole(1));
        due("taken away", x.column(0, -1), -1);
        due("the other one is there still", x.column(1, -1), -1);
    }

    @Says(promise = 8, value = "Returns how far it is filled then; -1 if it is taken away.")
    static void p08_stepByStep() {
        RolloutHall x = new RolloutHall();
        due("added", x.column(0, 3), 0);
        for (int filled = 33; filled < 100; filled += 33) {
            due("filled", x.column(0, 33), filled);
        }
        due("whole", x.column(0, 33), 100);
        due("taken away", x.column(0, -1), -1);
    }

    @Says(promise = 8, value = "Throws `IndexOutOfBoundsException` if there is no such column")
    static void p08_noSuchColumn() {
        noSuch(NOTHING, x -> x.column(-1, 1), x -> x.column(5, 1), x -> x.column(LEAST, 1), x -> x.column(GREATEST, 1));
    }

    @Says(promise = 8, value = "Throws `IllegalArgumentException` if what is out of range")
    static void p08_whatOutOfRange() {
        Told[] wrong = {x -> x.column(0, 0), x -> x.column(0, 101), x -> x.column(0, -2), x -> x.column(0, LEAST),
            x -> x.column(0, GREATEST)};
        outOfRange(NOTHING, wrong);
        outOfRange(filledTo(0, 50), wrong);
    }

    @Says(promise = 8, value = "Throws `IllegalStateException` if it was taken away")
    static void p08_itWasTakenAway() {
        notNow(all(whole(0), x -> x.column(0, -1)), x -> x.column(0, 1), x -> x.column(0, 100), x -> x.column(0, -1));
    }

    @Says(promise = 8, value = ", or cannot be")
    static void p08_itIsNotWhole() {
        notNow(NOTHING, x -> x.column(0, -1));
        notNow(filledTo(0, 0), x -> x.column(0, -1));
        notNow(filledTo(0, 99), x -> x.column(0, -1));
        due("at 100", hall(filledTo(0, 100)).column(0, -1), -1);
    }

    @Says(promise = 8, value = "It can be taken away when it is whole, and no build that runs, or is a canary, in any "
            + "ring uses it.")
    static void p08_aBuildUsesIt() {
        Told used = all(builds(2), whole(4), x -> x.uses(0, 4));
        Told away = x -> x.column(4, -1);
        notNow(all(used, x -> x.begin(0), x -> x.step(0)), away);
        for (int rings = 1; rings <= 4; rings++) {
            notNow(all(used, run(0, rings)), away);
        }
        for (int rings = 1; rings < 4; rings++) {
            notNow(all(used, run(0, 4), run(1, rings)), away);
        }
        due("a former one uses it", hall(used, run(0, 4), run(1, 4)).column(4, -1), -1);
        due("a roll-out without a canary", hall(used, x -> x.begin(0)).column(4, -1), -1);
        due("gone back", hall(used, run(0, 2), x -> x.back(0)).column(4, -1), -1);
        due("another one runs", hall(used, run(1, 4)).column(4, -1), -1);
    }

    @Says(promise = 8, value = "It can be taken away when it is whole, and no build that runs, or is a canary, in any "
            + "ring uses it.")
    static void p08_theLastBuildUsesIt() {
        Told last = all(services(5), times(23, x -> x.build(0, 0)), x -> x.build(4, 0), x -> x.uses(23, 0), whole(0));
        due("it does not run", hall(last).column(0, -1), -1);
        notNow(all(last, x -> x.begin(23), x -> x.step(4)), x -> x.column(0, -1));
        notNow(all(last, run(23, 4)), x -> x.column(0, -1));
    }

    @Says(promise = 8, value = ", or it is whole and should be filled")
    static void p08_itIsWholeAndShouldBeFilled() {
        notNow(whole(0), x -> x.column(0, 1), x -> x.column(0, 100));
        notNow(filledTo(0, 100), x -> x.column(0, 1));
    }

    @Says(promise = 8, value = SEVERAL)
    static void p08_firstOfSeveral() {
        noSuch(NOTHING, x -> x.column(5, 0), x -> x.column(-1, 101), x -> x.column(5, -1));
        outOfRange(all(whole(0), x -> x.column(0, -1)), x -> x.column(0, 0), x -> x.column(0, -2));
        outOfRange(whole(0), x -> x.column(0, 101));
    }

    @Says(promise = 8, value = UNCHANGED)
    static void p08_refusedChangesNothing() {
        RolloutHall x = hall(filledTo(0, 98));
        Check.notNow("not whole", () -> x.column(0, -1));
        Check.outOfRange("0", () -> x.column(0, 0));
        Check.outOfRange("101", () -> x.column(0, 101));
        due("one more", x.column(0, 1), 99);
        due("whole", x.column(0, 1), 100);
        Check.notNow("whole", () -> x.column(0, 1));
        due("taken away", x.column(0, -1), -1);
        Check.notNow("absent", () -> x.column(1, -1));
        due("added", x.column(1, 1), 0);
    }
}
