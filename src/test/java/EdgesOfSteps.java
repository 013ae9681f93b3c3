/** Edges of the promise 10: the steps of a roll-out, and the reasons against them. */
final class EdgesOfSteps extends Edges {
    private static final String FIRST = "Each step is refused for the first of these reasons that is so:";

    @Says(promise = 10, value = "Makes the next step of the roll-out of a service.")
    static void p10_ofThatServiceAlone() {
        RolloutHall x = hall(services(2), y -> y.build(0, 0), y -> y.build(1, 0), y -> y.begin(0), y -> y.begin(1));
        due("step", x.step(1), 0);
        due("a canary", x.in(0, 1, 1), 1);
        due("of the other one none", x.in(0, 0, 1), NONE);
    }

    @Says(promise = 10, value = "`service`: a service")
    static void p10_serviceSmallestAndGreatest() {
        Told five = all(services(5), x -> x.build(0, 0), x -> x.build(4, 0), x -> x.begin(0), x -> x.begin(1));
        due("0", hall(five).step(0), 0);
        due("4", hall(five).step(4), 0);
    }

    @Says(promise = 10, value = "Returns 0 if it is done; otherwise why it is refused, 1 to 8.")
    static void p10_fromNoneToEight() {
        for (int reason = 1; reason <= 6; reason++) {
            due("to become a canary", aheadOfCanary(1 << reason).step(1), reason);
            due("and nothing else", aheadOfCanary(0).step(1), 0);
        }
        for (int reason = 1; reason <= 8; reason++) {
            if (reason != 5 && reason != 6) {
                due("for the gate", aheadOfGate(1 << reason).step(0), reason);
                due("and nothing else", aheadOfGate(0).step(0), 0);
            }
        }
    }

    @Says(promise = 10, value = "Returns 0 if it is done; otherwise why it is refused, 1 to 8.")
    static void p10_aRefusedStepChangesNothing() {
        refusedStep(1, x -> x.begin(0), x -> x.freeze(0, 0, 9));
        refusedStep(2, x -> x.begin(0), x -> x.alert(0, 3));
        refusedStep(3, x -> x.begin(0), x -> x.step(0), x -> x.budget(0, 1), x -> x.requests(0, 0, true, 20, 1));
        refusedStep(4, x -> x.begin(0), x -> x.condemn(0));
        refusedStep(6, x -> x.begin(0), x -> x.step(0), x -> x.requests(0, 0, true, 20, 0), x -> x.step(0));
        refusedStep(7, x -> x.begin(0), x -> x.step(0));
        refusedStep(8, x -> x.begin(0), x -> x.step(0), x -> x.requests(0, 0, true, 10, 10));
        Told needed = all(services(2), x -> x.needs(0, 1), x -> x.build(0, 0), x -> x.begin(0));
        due("reason", hall(needed).step(0), 5);
        changesNothing(needed, x -> x.step(0));
    }

    private static void refusedStep(int reason, Told... told) {
        due("reason", hall(builds(2), all(told)).step(0), reason);
        changesNothing(all(builds(2), all(told)), x -> x.step(0));
    }

    @Says(promise = 10, value = "Throws `IndexOutOfBoundsException` if there is no such service")
    static void p10_noSuchService() {
        noSuch(NOTHING, x -> x.step(0));
        noSuch(all(builds(1), x -> x.begin(0)), x -> x.step(1), x -> x.step(-1), x -> x.step(LEAST),
                x -> x.step(GREATEST));
        noSuch(services(5), x -> x.step(5));
    }

    @Says(promise = 10, value = "Throws `IllegalStateException` if it has no roll-out")
    static void p10_noRollout() {
        notNow(builds(1), x -> x.step(0));
        notNow(all(builds(1), run(0, 4)), x -> x.step(0));
        notNow(all(builds(1), run(0, 2), x -> x.back(0)), x -> x.step(0));
        notNow(all(services(2), x -> x.build(0, 0), x -> x.begin(0)), x -> x.step(1));
    }

    @Says(promise = 10, value = ", or that is halted")
    static void p10_itIsHalted() {
        Told halted = all(builds(2), run(0, 4), run(1, 1), x -> x.condemn(0), x -> x.back(0));
        notNow(halted, x -> x.step(0));
        notNow(all(halted, x -> x.condemn(0)), x -> x.step(0));
    }

    @Says(promise = 10, value = ", but makes no steps.")
    static void p10_noStepsAfterHalting() {
        RolloutHall x = hall(builds(2), run(0, 4), run(1, 3), y -> y.condemn(0), y -> y.back(0));
        Check.notNow("halted", () -> x.step(0));
        x.pass(600);
        x.condemn(0);
        Check.notNow("halted still", () -> x.step(0));
        due("back", x.back(0), 0);
        x.begin(1);
        due("anew", x.step(0), 0);
    }

    @Says(promise = 10, value = SEVERAL)
    static void p10_firstOfSeveral() {
        noSuch(builds(1), x -> x.step(1), x -> x.step(-1));
    }

    @Says(promise = 10, value = UNCHANGED)
    static void p10_refusedChangesNothing() {
        RolloutHall x = hall(builds(1), y -> y.freeze(0, 0, 9999), y -> y.except(0));
        Check.notNow("no roll-out", () -> x.step(0));
        Check.noSuch("no service 1", () -> x.step(1));
        due("the exception is there still", x.except(0), 2);
        x.begin(0);
        due("the first step", x.step(0), 0);
        due("a canary", x.in(0, 0, 1), 0);
    }

    // ---- the way through the rings

    @Says(promise = 10, value = "It goes through the rings by steps.")
    static void p10_eightSteps() {
        RolloutHall x = hall(builds(1), y -> y.begin(0));
        for (int step = 0; step < 8; step++) {
            due("rolling ahead of step " + step, x.rolling(0), step / 2);
            if (step % 2 == 1) {
                x.requests(0, step / 2, true, 20, 0);
            } else {
                x.pass(30);
            }
            due("step " + step, x.step(0), 0);
        }
        Check.notNow("no ninth one", () -> x.step(0));
    }

    @Says(promise = 10, value = "In the ring 0, and then in each next one: first the build becomes the canary there; "
            + "then, when the gate is passed, it runs there, in place of what ran, which is kept as the ring's former "
            + "one, and is no canary any more.")
    static void p10_eachRingAfterTheOther() {
        RolloutHall x = hall(builds(2), run(0, 4), y -> y.begin(1));
        for (int ring = 0; ring < 4; ring++) {
            due("to become a canary", x.step(0), 0);
            due("in the ring " + ring, rings(x), seen(ring, true));
            x.requests(0, ring, true, 20, 0);
            x.requests(0, ring, false, 20, 0);
            due("to run", x.step(0), 0);
            due("in the ring " + ring, rings(x), seen(ring + 1, false));
            x.pass(30);
        }
    }

    private static String rings(RolloutHall x) {
        StringBuilder text = new StringBuilder();
        for (int i = 0; i < 12; i++) {
            text.append(x.in(i / 3, 0, i % 3)).append(' ');
        }
        return text.toString();
    }

    /** The build 1 runs in so many rings in place of 0; perhaps it is a canary in the next one. */
    private static String seen(int runs, boolean isCanary) {
        StringBuilder text = new StringBuilder();
        for (int ring = 0; ring < 4; ring++) {
            text.append(ring < runs ? "1 -1 0 " : ring == runs && isCanary ? "0 1 -1 " : "0 -1 -1 ");
        }
        return text.toString();
    }

    @Says(promise = 10, value = "When it runs in the ring 3, the roll-out is over.")
    static void p10_overInTheLastRing() {
        RolloutHall x = hall(builds(2), run(0, 3), y -> y.step(0));
        due("a canary in the ring 3", x.rolling(0), 3);
        x.requests(0, 3, true, 20, 0);
        due("the last step", x.step(0), 0);
        due("over", x.rolling(0), NONE);
        Check.notNow("no step", () -> x.step(0));
        Check.notNow("no way back", () -> x.back(0));
        due("the next one", x.begin(1), 0);
    }

    // ---- the reasons

    private static boolean has(int reasons, int reason) {
        return (reasons & 1 << reason) != 0;
    }

    /** The reasons 1 to 4 hold for the service, whose build is rolled out and runs in the ring where it is told. */
    private static void addReasons(RolloutHall x, int reasons, int service, int build, int ring) {
        if (has(reasons, 3)) {
            x.budget(service, 1);
            x.requests(service, ring, false, 0, 1);
        }
        if (has(reasons, 4)) {
            x.condemn(build);
        }
        if (has(reasons, 2)) {
            x.alert(service, 2);
        }
        if (has(reasons, 1)) {
            x.freeze(service, 0, 9999);
        }
    }

    /** The build 2, which runs in the ring 0, should become a canary in the ring 1: just these of 1 to 6 are so. */
    private static RolloutHall aheadOfCanary(int reasons) {
        RolloutHall x = hall(Edges::pair, run(0, has(reasons, 5) ? 1 : 2), y -> y.begin(2), y -> y.step(1),
                y -> y.requests(1, 0, true, 20, 0), y -> y.step(1), passed(has(reasons, 6) ? 29 : 30));
        addReasons(x, reasons, 1, 2, 0);
        return x;
    }

    /** The build 1 is a canary in the ring 0 and should run there: just these of 1 to 4, 7 and 8 are so. */
    private static RolloutHall aheadOfGate(int reasons) {
        RolloutHall x = hall(builds(2), run(0, 4), y -> y.begin(1), y -> y.step(0));
        x.requests(0, 0, false, 20, 0);
        int told = has(reasons, 7) ? 19 : 20;
        int bad = has(reasons, 8) ? 2 : 0;
        x.requests(0, 0, true, told - bad, bad);
        addReasons(x, reasons, 0, 1, 3);
        return x;
    }

    private static int lowest(int reasons) {
        return reasons == 0 ? 0 : Integer.numberOfTrailingZeros(reasons);
    }

    @Says(promise = 10, value = FIRST)
    static void p10_firstOfAllMixesAheadOfACanary() {
        for (int reasons = 0; reasons < 1 << 7; reasons += 2) {
            due("of the reasons " + Integer.toBinaryString(reasons), aheadOfCanary(reasons).step(1), lowest(reasons));
        }
    }

    @Says(promise = 10, value = FIRST)
    static void p10_firstOfAllMixesAtTheGate() {
        for (int reasons = 0; reasons < 1 << 9; reasons += 2) {
            if (!has(reasons, 5) && !has(reasons, 6)) {
                due("of the reasons " + Integer.toBinaryString(reasons), aheadOfGate(reasons).step(0), lowest(reasons));
            }
        }
    }

    // ---- reason 1

    @Says(promise = 10, value = "1 a freeze holds for the service, and it has no exception")
    static void p10_reason1FreezeAndNoException() {
        RolloutHall x = hall(builds(1), y -> y.begin(0), y -> y.freeze(0, 5, 7));
        x.pass(4);
        due("ahead of it", x.step(0), 0);
        x.requests(0, 0, true, 20, 0);
        x.pass(1);
        due("its first minute", x.step(0), 1);
        x.pass(1);
        due("its last minute", x.step(0), 1);
        x.pass(1);
        due("behind it", x.step(0), 0);
    }

    @Says(promise = 10, value = "1 a freeze holds for the service, and it has no exception")
    static void p10_reason1OfServicesAndExceptions() {
        Told two = all(services(2), x -> x.build(0, 0), x -> x.build(1, 0), x -> x.begin(0), x -> x.begin(1));
        due("for another service", hall(two, x -> x.freeze(1, 0, 9)).step(0), 0);
        due("for it", hall(two, x -> x.freeze(0, 0, 9)).step(0), 1);
        due("for all", hall(two, x -> x.freeze(-1, 0, 9)).step(0), 1);
        due("an exception", hall(two, x -> x.freeze(-1, 0, 9), x -> x.except(0)).step(0), 0);
        due("of another one", hall(two, x -> x.freeze(-1, 0, 9), x -> x.except(1)).step(0), 1);
        due("the last of 8", hall(two, times(7, x -> x.freeze(1, 0, 9)), x -> x.freeze(0, 0, 9)).step(0), 1);
    }

    @Says(promise = 10, value = "When a freeze holds, and the service has exceptions, a step that is done takes one of "
            + "them.")
    static void p10_aStepTakesAnException() {
        RolloutHall x = hall(builds(1), y -> y.freeze(0, 0, 9999), times(9, y -> y.except(0)), y -> y.begin(0));
        due("a canary", x.step(0), 0);
        due("8 are left", x.except(0), 9);
        x.requests(0, 0, true, 20, 0);
        due("it runs", x.step(0), 0);
        due("8 are left", x.except(0), 9);
    }

    @Says(promise = 10, value = "When a freeze holds, and the service has exceptions, a step that is done takes one of "
            + "them.")
    static void p10_theLastExceptionIsTaken() {
        RolloutHall x = hall(builds(1), y -> y.freeze(0, 0, 9999), y -> y.except(0), y -> y.begin(0));
        due("a canary", x.step(0), 0);
        x.requests(0, 0, true, 20, 0);
        due("none is left", x.step(0), 1);
        due("one again", x.except(0), 1);
        due("it runs", x.step(0), 0);
    }

    @Says(promise = 10, value = "When a freeze holds, and the service has exceptions, a step that is done takes one of "
            + "them.")
    static void p10_whatTakesNoException() {
        Told one = all(services(2), x -> x.build(0, 0), x -> x.begin(0), x -> x.except(0), x -> x.except(1));
        RolloutHall x = hall(one, y -> y.freeze(0, 1, 9), y -> y.freeze(1, 0, 9));
        due("no freeze holds", x.step(0), 0);
        due("none is taken", x.except(0), 2);
        RolloutHall z = hall(one, y -> y.freeze(0, 0, 9), y -> y.alert(0, 3));
        due("a refused step", z.step(0), 2);
        due("none is taken", z.except(0), 2);
        RolloutHall both = hall(one, y -> y.except(0), y -> y.freeze(0, 0, 9), y -> y.freeze(-1, 0, 9));
        due("two freezes", both.step(0), 0);
        due("one is taken", both.except(0), 2);
        due("of the other none", both.except(1), 2);
    }

    // ---- reason 2

    @Says(promise = 10, value = "; 2 an incident of a severity of 2 or 3 is open (taken or not) for the service, or for one "
            + "that it needs itself")
    static void p10_reason2SeverityOfOpenIncidents() {
        Told begun = all(builds(1), x -> x.begin(0));
        int[] want = {0, 0, 2, 2};
        for (int severity = 0; severity < 4; severity++) {
            int told = severity;
            due("severity " + severity, hall(begun, x -> x.alert(0, told)).step(0), want[severity]);
            due("taken", hall(begun, x -> x.alert(0, told), x -> x.take(0, 0)).step(0), want[severity]);
            due("closed", hall(begun, x -> x.alert(0, told), ended(0, 0)).step(0), 0);
            due("from 0 on", hall(begun, x -> x.alert(0, 0), x -> x.alert(0, told)).step(0), want[severity]);
        }
        due("12, all closed", hall(begun, times(12, x -> ended(x.alert(0, 3), 0).to(x))).step(0), 0);
        due("the last of 12", hall(begun, times(11, x -> ended(x.alert(0, 3), 0).to(x)), x -> x.alert(0, 2)).step(0), 2);
    }

    @Says(promise = 10, value = "for the service, or for one that it needs itself")
    static void p10_reason2OfWhichServices() {
        Told chain = all(services(4), x -> x.needs(1, 0), x -> x.needs(2, 1), x -> x.build(0, 0), x -> x.build(1, 0),
                x -> x.build(2, 0), x -> x.build(3, 0), run(0, 1), run(1, 1), x -> x.begin(2), x -> x.begin(3));
        int[][] want = {{2, 0, 0, 0}, {2, 2, 0, 0}, {0, 2, 2, 0}, {0, 0, 0, 2}};
        for (int service = 0; service < 4; service++) {
            for (int other = 0; other < 4; other++) {
                int hurt = other;
                RolloutHall x = hall(chain, y -> y.alert(hurt, 2));
                due("the step of " + service + " with one of " + other, x.step(service) == 2, want[service][other] == 2);
            }
        }
    }

    // ---- reason 3

    @Says(promise = 10, value = "; 3 the budget of the service is used up")
    static void p10_reason3JustAtItsShareAndAbove() {
        Told begun = all(services(2), x -> x.build(0, 0), x -> x.build(0, 0), x -> x.build(1, 0), run(0, 4), run(2, 4),
                x -> x.begin(1), x -> x.budget(0, 20));
        due("just the share", hall(begun, x -> x.requests(0, 1, false, 98, 2)).step(0), 0);
        due("one good one less", hall(begun, x -> x.requests(0, 1, false, 97, 2)).step(0), 3);
        due("one bad one more", hall(begun, x -> x.requests(0, 1, false, 98, 3)).step(0), 3);
        due("of another service", hall(begun, x -> x.requests(1, 1, false, 0, 9)).step(0), 0);
        due("no requests", hall(begun).step(0), 0);
        due("none are told", hall(begun, x -> x.requests(0, 1, false, 0, 0)).step(0), 0);
    }

    // ---- reason 4

    @Says(promise = 10, value = "; 4 the build is condemned, or a column that it uses is not whole")
    static void p10_reason4CondemnedOrColumnNotWhole() {
        Told begun = all(builds(2), x -> x.uses(0, 2), x -> x.uses(0, 4), whole(4), x -> x.begin(0));
        due("absent", hall(begun).step(0), 4);
        due("added", hall(begun, x -> x.column(2, 1)).step(0), 4);
        due("at 99", hall(begun, x -> x.column(2, 1), x -> x.column(2, 99)).step(0), 4);
        due("whole", hall(begun, whole(2)).step(0), 0);
        due("taken away", hall(begun, whole(2), x -> x.column(2, -1)).step(0), 4);
        due("condemned", hall(begun, whole(2), x -> x.condemn(0)).step(0), 4);
        due("another one is", hall(begun, whole(2), x -> x.condemn(1)).step(0), 0);
        due("condemned at the gate", hall(begun, whole(2), x -> x.step(0), x -> x.condemn(0)).step(0), 4);
    }

    @Says(promise = 10, value = "A build can run only if all columns that it uses are whole.")
    static void p10_itsColumnsStayWholeWhereItIs() {
        RolloutHall x = hall(builds(1), y -> y.uses(0, 2), whole(2), y -> y.begin(0), y -> y.step(0));
        Check.notNow("a canary uses it", () -> x.column(2, -1));
        x.requests(0, 0, true, 20, 0);
        due("it runs", x.step(0), 0);
        Check.notNow("a build that runs uses it", () -> x.column(2, -1));
    }

    // ---- reason 5

    @Says(promise = 10, value = "; 5 the ring would not be sound (with the canary, or with the build in place of what ran)")
    static void p10_reason5NoneOfANeededServiceRuns() {
        RolloutHall x = hall(Edges::pair, y -> y.begin(2));
        due("none runs", x.step(1), 5);
        x.begin(0);
        x.step(0);
        due("a canary alone", x.step(1), 5);
        x.requests(0, 0, true, 20, 0);
        x.step(0);
        due("one runs", x.step(1), 0);
        RolloutHall both = hall(services(3), y -> y.needs(2, 0), y -> y.needs(2, 1), y -> y.build(0, 0),
                y -> y.build(1, 0), y -> y.build(2, 0), run(1, 1), y -> y.begin(2));
        due("one of two", both.step(2), 5);
        Halls.roll(both, 0, 1);
        due("both", both.step(2), 0);
    }

    @Says(promise = 10, value = "some build of each of these runs.")
    static void p10_reason5OfThisRingAlone() {
        RolloutHall x = hall(Edges::pair, run(0, 1), run(2, 1));
        due("none runs in the ring 1", x.step(1), 5);
        Halls.goOn(x, 0, 1);
        due("one runs", x.step(1), 0);
    }

    @Says(promise = 10, value = "A ring is sound if each build that runs there, or is a canary there, goes together with "
            + "each one that runs, or is a canary, of each service that its own one needs, and some build of each of "
            + "these runs.")
    static void p10_reason5EachWithEach() {
        Told needed = all(Edges::pair, run(0, 4));
        Told zero = x -> x.accepts(2, 0, 0, 0);
        Told one = x -> x.accepts(2, 0, 1, 1);
        Told next = all(x -> x.begin(1), x -> x.step(0));
        due("a canary and what runs", Halls.tryCanary(hall(needed, one), 2), 5);
        due("it accepts it", Halls.tryCanary(hall(needed, zero), 2), 0);
        due("a canary and a canary", Halls.tryCanary(hall(needed, next, zero), 2), 5);
        due("it accepts both", Halls.tryCanary(hall(needed, next, x -> x.accepts(2, 0, 0, 1)), 2), 0);
        due("what runs and a canary", Halls.tryCanary(hall(needed, zero, run(2, 1)), 1), 5);
        due("it accepts it", Halls.tryCanary(hall(needed, x -> x.accepts(2, 0, 0, 1), run(2, 1)), 1), 0);
        due("a canary and the next one", Halls.tryCanary(hall(needed, zero, x -> x.begin(2), x -> x.step(1)), 1), 5);
        due("the former one does not matter", Halls.tryCanary(hall(needed, run(1, 4), one), 2), 0);
    }

    @Says(promise = 10, value = "or with the build in place of what ran)")
    static void p10_reason5WhatRanDoesNotCountAtTheGate() {
        Told needed = all(services(2), x -> x.needs(1, 0), x -> x.build(0, 9), x -> x.build(0, 1), x -> x.build(0, 2),
                x -> x.build(1, 0), x -> x.accepts(3, 0, 1, 2), run(1, 4), run(3, 4));
        RolloutHall x = hall(needed, y -> y.begin(2), y -> y.step(0), y -> y.requests(0, 0, true, 20, 0),
                y -> y.requests(0, 0, false, 20, 0));
        due("in place of what ran", x.step(0), 0);
        due("sound", x.isSound(0), true);
        due("one that is not accepted", Halls.tryCanary(hall(needed), 0), 5);
    }

    // ---- reason 6

    @Says(promise = 10, value = "; 6 (to become a canary in a ring but 0) it has not run for 30 minutes in the ring ahead")
    static void p10_reason6ThirtyMinutes() {
        RolloutHall x = hall(builds(1), y -> y.begin(0));
        due("in the ring 0 at once", x.step(0), 0);
        for (int ring = 0; ring < 3; ring++) {
            x.requests(0, ring, true, 20, 0);
            x.pass(300);
            due("it runs", x.step(0), 0);
            due("0 minutes", x.step(0), 6);
            x.pass(29);
            due("29 minutes", x.step(0), 6);
            x.pass(1);
            due("30 minutes", x.step(0), 0);
        }
    }

    @Says(promise = 10, value = "; 6 (to become a canary in a ring but 0) it has not run for 30 minutes in the ring ahead")
    static void p10_reason6NotForTheGate() {
        RolloutHall x = hall(builds(1), y -> y.begin(0), y -> y.step(0), y -> y.requests(0, 0, true, 20, 0));
        due("it runs at once", x.step(0), 0);
        RolloutHall y = hall(builds(2), run(0, 1), z -> z.back(0));
        y.begin(1);
        due("the next one in the ring 0 at once", y.step(0), 0);
    }

    // ---- reason 7

    @Says(promise = 10, value = "; 7 (for the gate) data are missing: fewer than 20 requests of the canary, or, if a build "
            + "runs there, of that")
    static void p10_reason7TwentyRequests() {
        Told first = all(builds(2), x -> x.begin(0), x -> x.step(0));
        due("none", hall(first).step(0), 7);
        due("19", hall(first, x -> x.requests(0, 0, true, 19, 0)).step(0), 7);
        due("20, none runs", hall(first, x -> x.requests(0, 0, true, 20, 0)).step(0), 0);
        due("bad ones count", hall(first, x -> x.requests(0, 0, true, 19, 1)).step(0), 0);
        due("19 and 1", hall(first, x -> x.requests(0, 0, true, 19, 0), x -> x.requests(0, 0, true, 1, 0)).step(0), 0);
        Told next = all(builds(2), run(0, 4), x -> x.begin(1), x -> x.step(0), x -> x.requests(0, 0, true, 20, 0));
        due("none of what runs", hall(next).step(0), 7);
        due("19 of it", hall(next, x -> x.requests(0, 0, false, 19, 0)).step(0), 7);
        due("20 of it", hall(next, x -> x.requests(0, 0, false, 20, 0)).step(0), 0);
        due("bad ones count", hall(next, x -> x.requests(0, 0, false, 19, 1)).step(0), 0);
    }

    @Says(promise = 10, value = "; 7 (for the gate) data are missing: fewer than 20 requests of the canary, or, if a build "
            + "runs there, of that")
    static void p10_reason7OfTheCanaryWhenOneRuns() {
        Told next = all(builds(2), run(0, 4), x -> x.begin(1), x -> x.step(0), x -> x.requests(0, 0, false, 20, 0));
        due("none of the canary", hall(next).step(0), 7);
        due("19", hall(next, x -> x.requests(0, 0, true, 19, 0)).step(0), 7);
        due("20", hall(next, x -> x.requests(0, 0, true, 20, 0)).step(0), 0);
    }

    // ---- reason 8

    /** The step at the gate, with requests of the canary and of what runs; none runs if there are none of it. */
    private static int gate(int good, int bad, int otherGood, int otherBad) {
        boolean isFirst = otherGood + otherBad == 0;
        RolloutHall x = hall(builds(2), isFirst ? NOTHING : run(0, 4), y -> y.begin(1), y -> y.step(0));
        x.requests(0, 0, true, good, bad);
        if (!isFirst) {
            x.requests(0, 0, false, otherGood, otherBad);
        }
        return x.step(0);
    }

    @Says(promise = 10, value = "; 8 (for the gate) the canary is worse: its share of bad requests is above that of the "
            + "build that runs (0 if there is none) by more than 5 of 100, in exact numbers.")
    static void p10_reason8FiveOf100() {
        due("5 of 100", gate(95, 5, 100, 0), 0);
        due("6 of 100", gate(94, 6, 100, 0), 8);
        due("5 of 99", gate(94, 5, 100, 0), 8);
        due("1 of 20", gate(19, 1, 20, 0), 0);
        due("2 of 20", gate(18, 2, 20, 0), 8);
        due("15 of 100 by 10 of 100", gate(85, 15, 90, 10), 0);
        due("16 of 100 by 10 of 100", gate(84, 16, 90, 10), 8);
        due("15 of 100 by 10 of 101", gate(85, 15, 91, 10), 8);
        due("all by 95 of 100", gate(0, 100, 5, 95), 0);
        due("all by 94 of 100", gate(0, 100, 6, 94), 8);
        due("the canary is better", gate(100, 0, 0, 100), 0);
        due("both all bad", gate(0, 20, 0, 20), 0);
    }

    @Says(promise = 10, value = "(0 if there is none)")
    static void p10_reason8NoneRuns() {
        due("5 of 100", gate(95, 5, 0, 0), 0);
        due("6 of 100", gate(94, 6, 0, 0), 8);
        due("50 of 1000", gate(950, 50, 0, 0), 0);
        due("50 of 999", gate(949, 50, 0, 0), 8);
        due("1 of 20", gate(19, 1, 0, 0), 0);
        due("2 of 39", gate(37, 2, 0, 0), 8);
        due("2 of 40", gate(38, 2, 0, 0), 0);
    }

    @Says(promise = 10, value = ", in exact numbers.")
    static void p10_reason8InExactNumbers() {
        due("23 of 60 by 10 of 30", gate(37, 23, 20, 10), 0);
        due("24 of 60 by 10 of 30", gate(36, 24, 20, 10), 8);
        due("27 of 140 by 3 of 21", gate(113, 27, 18, 3), 0);
        due("28 of 140 by 3 of 21", gate(112, 28, 18, 3), 8);
        due("1000 of 1000 by 949 of 999", gate(0, 1000, 50, 949), 8);
        due("1000 of 1000 by 950 of 1000", gate(0, 1000, 50, 950), 0);
    }

    @Says(promise = 10, value = ", in exact numbers.")
    static void p10_reason8OfTheMostRequests() {
        Told many = all(builds(2), run(0, 4), x -> x.begin(1), x -> x.step(0),
                times(200, x -> x.requests(0, 0, true, 1000, 1000)), times(200, x -> x.requests(0, 0, false, 550, 450)));
        due("50 of 100 by 45 of 100", hall(many).step(0), 0);
        due("one bad one more", hall(many, x -> x.requests(0, 0, true, 0, 1)).step(0), 8);
        Told just = all(builds(1), x -> x.begin(0), x -> x.step(0), times(400, x -> x.requests(0, 0, true, 950, 50)));
        due("just 5 of 100", hall(just).step(0), 0);
        due("one more", hall(just, x -> x.requests(0, 0, true, 0, 1)).step(0), 8);
    }
}
