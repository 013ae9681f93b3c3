/** Edges of the promises 9, 11 and 12: roll-outs that begin and go back, requests. */
final class EdgesOfRolling extends Edges {

    // ---- promise 9: begin

    @Says(promise = 9, value = "Begins a roll-out.")
    static void p09_nothingIsInARingYet() {
        RolloutHall x = hall(builds(1), y -> y.begin(0));
        due("rolling", x.rolling(0), 0);
        for (int i = 0; i < 12; i++) {
            due("in", x.in(i / 3, 0, i % 3), NONE);
        }
    }

    @Says(promise = 9, value = "`build`: a build")
    static void p09_buildSmallestAndGreatest() {
        due("0", hall(builds(24)).begin(0), 0);
        RolloutHall x = hall(builds(24));
        x.begin(23);
        due("23", x.rolling(0), 230);
    }

    @Says(promise = 9, value = "Returns its service.")
    static void p09_serviceSmallestAndGreatest() {
        RolloutHall x = hall(services(5), y -> y.build(4, 0), y -> y.build(0, 0));
        due("4", x.begin(0), 4);
        due("0", x.begin(1), 0);
    }

    @Says(promise = 9, value = "Throws `IndexOutOfBoundsException` if there is no such build")
    static void p09_noSuchBuild() {
        noSuch(services(1), x -> x.begin(0));
        noSuch(builds(2), x -> x.begin(2), x -> x.begin(-1), x -> x.begin(LEAST), x -> x.begin(GREATEST));
        noSuch(builds(24), x -> x.begin(24));
    }

    @Says(promise = 9, value = "Throws `IllegalStateException` if its service has one")
    static void p09_itsServiceHasOne() {
        notNow(all(builds(2), x -> x.begin(0)), x -> x.begin(0), x -> x.begin(1));
        notNow(all(builds(2), x -> x.begin(0), x -> x.step(0)), x -> x.begin(0), x -> x.begin(1));
        notNow(all(builds(2), run(0, 3)), x -> x.begin(1));
        notNow(EdgesOfRolling::halted, x -> x.begin(2));
    }

    @Says(promise = 9, value = "A roll-out is of a build; a service has one at a time.")
    static void p09_oneAtATime() {
        RolloutHall x = hall(services(2), y -> y.build(0, 0), y -> y.build(0, 0), y -> y.build(1, 0));
        x.begin(0);
        due("of another service", x.begin(2), 1);
        Halls.goOn(x, 0, 4);
        due("the next one when that is over", x.begin(1), 0);
        x.back(0);
        due("the same one when it went back", x.begin(1), 0);
    }

    @Says(promise = 9, value = ", or the build runs in some ring")
    static void p09_itRunsInSomeRing() {
        notNow(all(builds(2), run(0, 4)), x -> x.begin(0));
        notNow(all(builds(2), run(0, 4), run(1, 4)), x -> x.begin(1));
        notNow(all(builds(2), run(0, 4), run(1, 2), x -> x.back(0)), x -> x.begin(0));
        notNow(all(builds(2), run(0, 1)), x -> x.begin(0));
        due("a former one", hall(builds(2), run(0, 4), run(1, 4)).begin(0), 0);
        due("gone back", hall(builds(2), run(0, 4), run(1, 3), x -> x.back(0)).begin(1), 0);
    }

    @Says(promise = 9, value = ", or is condemned")
    static void p09_itIsCondemned() {
        notNow(all(builds(2), x -> x.condemn(0)), x -> x.begin(0));
        due("not any more", hall(builds(2), x -> x.condemn(0), x -> x.condemn(0)).begin(0), 0);
        due("another one is", hall(builds(2), x -> x.condemn(0)).begin(1), 0);
    }

    @Says(promise = 9, value = "Throws `IllegalStateException` if its service has one")
    static void p09_whatDoesNotHinderIt() {
        due("a column", hall(builds(1), x -> x.uses(0, 0)).begin(0), 0);
        due("a freeze", hall(builds(1), x -> x.freeze(-1, 0, 9999)).begin(0), 0);
        due("an incident", hall(builds(1), x -> x.alert(0, 3)).begin(0), 0);
        due("a need", hall(Edges::pair).begin(2), 1);
    }

    @Says(promise = 9, value = SEVERAL)
    static void p09_firstOfSeveral() {
        noSuch(all(builds(2), x -> x.begin(0)), x -> x.begin(2), x -> x.begin(-1));
    }

    @Says(promise = 9, value = UNCHANGED)
    static void p09_refusedChangesNothing() {
        RolloutHall x = hall(builds(3), y -> y.condemn(2), y -> y.begin(0), y -> y.step(0));
        Check.notNow("its service has one", () -> x.begin(1));
        Check.notNow("condemned", () -> x.begin(2));
        Check.noSuch("no build 3", () -> x.begin(3));
        due("the first one goes on", x.rolling(0), 0);
        due("its requests, too", x.requests(0, 0, true, 20, 0), 20);
        due("it comes to run", x.step(0), 0);
        due("this one", x.in(0, 0, 0), 0);
    }

    // ---- promise 11: back

    /** The roll-out of the build 1 is halted in the rings 0 and 1, as the former build 0 is condemned. */
    private static void halted(RolloutHall x) {
        all(builds(3), run(0, 4), run(1, 2), y -> y.condemn(0), y -> y.back(0)).to(x);
    }

    @Says(promise = 11, value = "Lets the roll-out of a service go back.")
    static void p11_ofThatServiceAlone() {
        RolloutHall x = hall(services(2), y -> y.build(0, 0), y -> y.build(1, 0), run(0, 2), run(1, 1));
        x.back(0);
        due("it is over", x.rolling(0), NONE);
        due("the other one is not", x.rolling(1), 11);
        due("it runs", x.in(0, 1, 0), 1);
    }

    @Says(promise = 11, value = "`service`: a service")
    static void p11_serviceSmallestAndGreatest() {
        Told five = all(services(5), x -> x.build(0, 0), x -> x.build(4, 0), run(0, 1), run(1, 1));
        due("0", hall(five).back(0), 0);
        due("4", hall(five).back(4), 0);
    }

    @Says(promise = 11, value = "Returns in how many rings the build runs by it still.")
    static void p11_fromNoneToThree() {
        for (int rings = 1; rings <= 3; rings++) {
            RolloutHall x = hall(builds(2), run(0, 4), run(1, rings), y -> y.condemn(0));
            due("halted", x.back(0), rings);
            due("and again", x.back(0), rings);
            x.condemn(0);
            due("all come back", x.back(0), 0);
        }
        due("as a canary", hall(builds(1), x -> x.begin(0), x -> x.step(0)).back(0), 0);
        due("ahead of the first step", hall(builds(1), x -> x.begin(0)).back(0), 0);
    }

    @Says(promise = 11, value = "Throws `IndexOutOfBoundsException` if there is no such service")
    static void p11_noSuchService() {
        noSuch(NOTHING, x -> x.back(0));
        noSuch(all(builds(1), run(0, 1)), x -> x.back(1), x -> x.back(-1), x -> x.back(LEAST), x -> x.back(GREATEST));
        noSuch(services(5), x -> x.back(5));
    }

    @Says(promise = 11, value = "Throws `IllegalStateException` if it has no roll-out")
    static void p11_noRollout() {
        notNow(builds(1), x -> x.back(0));
        notNow(all(builds(1), run(0, 4)), x -> x.back(0));
        notNow(all(builds(1), run(0, 2), x -> x.back(0)), x -> x.back(0));
    }

    @Says(promise = 11, value = "To go back: the canary goes")
    static void p11_theCanaryGoes() {
        for (int ring = 0; ring < 4; ring++) {
            RolloutHall x = hall(builds(2), run(0, 4), run(1, ring), y -> y.step(0));
            due("a canary", x.in(ring, 0, 1), 1);
            due("back", x.back(0), 0);
            due("it went", x.in(ring, 0, 1), NONE);
            due("what runs stays", x.in(ring, 0, 0), 0);
            RolloutHall y = hall(builds(2), run(0, 4), run(1, ring), z -> z.step(0), z -> z.condemn(0));
            due("halted at once", y.back(0), ring);
            due("it went all the same", y.in(ring, 0, 1), NONE);
        }
    }

    @Says(promise = 11, value = "; then, from the last ring in which the build runs by this roll-out down to 0, the "
            + "former build comes back (or none runs, if none did; the ring has no former one then)")
    static void p11_theFormerOneComesBack() {
        RolloutHall x = hall(builds(2), run(0, 4), run(1, 3));
        due("back", x.back(0), 0);
        for (int ring = 0; ring < 4; ring++) {
            due("what runs in " + ring, x.in(ring, 0, 0), 0);
            due("the former one in " + ring, x.in(ring, 0, 2), NONE);
        }
    }

    @Says(promise = 11, value = "(or none runs, if none did; the ring has no former one then)")
    static void p11_noneRunsIfNoneDid() {
        RolloutHall x = hall(builds(1), run(0, 3));
        due("back", x.back(0), 0);
        for (int ring = 0; ring < 4; ring++) {
            due("what runs in " + ring, x.in(ring, 0, 0), NONE);
            due("the former one in " + ring, x.in(ring, 0, 2), NONE);
        }
    }

    @Says(promise = 11, value = "in which the build runs by this roll-out")
    static void p11_ringsOfFormerRolloutsStay() {
        RolloutHall x = hall(builds(3), run(0, 4), run(1, 4), run(2, 1));
        due("back", x.back(0), 0);
        due("in ring 0 the one ahead of it", x.in(0, 0, 0), 1);
        for (int ring = 1; ring < 4; ring++) {
            due("what runs in " + ring, x.in(ring, 0, 0), 1);
            due("the former one in " + ring, x.in(ring, 0, 2), 0);
        }
    }

    /** The build 1 of the service 0 runs in the rings 0 to 2, and in 0 and 1 the service 1 needs just that. */
    private static void neededInTwoRings(RolloutHall x) {
        all(Edges::pair, run(0, 4), run(1, 3), y -> y.accepts(2, 0, 1, 1), run(2, 2)).to(x);
    }

    @Says(promise = 11, value = "from the last ring in which the build runs by this roll-out down to 0")
    static void p11_theLastRingFirst() {
        RolloutHall x = hall(EdgesOfRolling::neededInTwoRings);
        due("two are left", x.back(0), 2);
        due("the last one came back", x.in(2, 0, 0), 0);
        due("it has no former one", x.in(2, 0, 2), NONE);
        due("the ring 1 did not", x.in(1, 0, 0), 1);
        due("it has one still", x.in(1, 0, 2), 0);
        due("the ring 0 did not", x.in(0, 0, 0), 1);
    }

    @Says(promise = 11, value = ", as long as that one is not condemned")
    static void p11_theFormerOneIsCondemned() {
        RolloutHall x = hall(builds(2), run(0, 4), run(1, 1), y -> y.condemn(0));
        due("it stays", x.back(0), 1);
        due("what runs", x.in(0, 0, 0), 1);
        x.condemn(0);
        due("not any more", x.back(0), 0);
        due("what runs", x.in(0, 0, 0), 0);
        RolloutHall y = hall(builds(2), run(0, 4), run(1, 1), z -> z.condemn(1));
        due("the one that goes may be", y.back(0), 0);
    }

    @Says(promise = 11, value = ", all columns that it uses are whole")
    static void p11_itsColumnsAreWholeStill() {
        Told used = all(builds(2), whole(0), x -> x.uses(0, 0), run(0, 4), run(1, 3));
        notNow(used, x -> x.column(0, -1));
        RolloutHall x = hall(used);
        due("back", x.back(0), 0);
        due("what runs", x.in(0, 0, 0), 0);
        RolloutHall y = hall(builds(2), whole(0), run(0, 4), z -> z.uses(1, 0), run(1, 1));
        due("the one that goes may use any", y.back(0), 0);
        due("now none uses it", y.column(0, -1), -1);
    }

    @Says(promise = 11, value = ", and the ring is sound then")
    static void p11_theRingWouldNotBeSound() {
        RolloutHall x = hall(Edges::pair, run(0, 1), run(2, 1));
        due("none would run", x.back(0), 1);
        due("it runs still", x.in(0, 0, 0), 0);
        due("the one that needs it goes", x.back(1), 0);
        due("now it goes", x.back(0), 0);
        RolloutHall y = hall(Edges::pair, run(0, 1), z -> z.begin(2), z -> z.step(1));
        due("a canary needs it", y.back(0), 1);
        due("the canary goes", y.back(1), 0);
        due("now it goes", y.back(0), 0);
    }

    @Says(promise = 11, value = "; the first ring where this is not so ends it: the roll-out is halted.")
    static void p11_theFirstOneEndsIt() {
        RolloutHall x = hall(EdgesOfRolling::neededInTwoRings);
        due("two are left", x.back(0), 2);
        due("halted", x.rolling(0), 14);
        due("the service 1 goes back", x.back(1), 0);
        due("nothing goes by itself", x.in(0, 0, 0), 1);
        due("again", x.back(0), 0);
    }

    @Says(promise = 11, value = "When it has come back everywhere, the roll-out is over.")
    static void p11_overWhenBackEverywhere() {
        RolloutHall x = hall(builds(2), run(0, 4), run(1, 2), y -> y.back(0));
        due("rolling", x.rolling(0), NONE);
        Check.notNow("no steps", () -> x.step(0));
        due("another one", x.begin(1), 0);
        RolloutHall y = hall(EdgesOfRolling::halted);
        y.condemn(0);
        due("the rest", y.back(0), 0);
        due("rolling", y.rolling(0), NONE);
    }

    @Says(promise = 11, value = "A roll-out that is halted can go back again")
    static void p11_haltedGoesBackAgain() {
        RolloutHall x = hall(EdgesOfRolling::halted);
        changesNothing(EdgesOfRolling::halted, y -> y.back(0));
        due("again", x.back(0), 2);
        due("halted still", x.rolling(0), 14);
    }

    @Says(promise = 11, value = "(Freezes, incidents and budgets do not matter for going back.)")
    static void p11_whatDoesNotMatter() {
        RolloutHall x = hall(builds(2), run(0, 4), run(1, 2), y -> y.freeze(-1, 0, 9999), y -> y.except(0));
        x.alert(0, 3);
        x.budget(0, 1);
        x.requests(0, 0, false, 0, 1000);
        due("back", x.back(0), 0);
        due("no exception was taken", x.except(0), 2);
        due("the incident stays", x.incident(0, 5), 0);
        due("the budget too", x.used(0), 1000f);
    }

    @Says(promise = 11, value = SEVERAL)
    static void p11_firstOfSeveral() {
        noSuch(builds(1), x -> x.back(1), x -> x.back(-1));
    }

    @Says(promise = 11, value = UNCHANGED)
    static void p11_refusedChangesNothing() {
        RolloutHall x = hall(services(2), y -> y.build(0, 0), y -> y.build(0, 0), run(0, 4));
        Check.notNow("it is over", () -> x.back(0));
        Check.notNow("it never had one", () -> x.back(1));
        Check.noSuch("no service 2", () -> x.back(2));
        for (int ring = 0; ring < 4; ring++) {
            due("it runs", x.in(ring, 0, 0), 0);
        }
        due("the next one begins", x.begin(1), 0);
    }

    // ---- promise 12: requests

    /** The build 0 runs in all rings, 1 is a canary in the ring 0. */
    private static void withCanary(RolloutHall x) {
        all(builds(2), run(0, 4), y -> y.begin(1), y -> y.step(0)).to(x);
    }

    @Says(promise = 12, value = "Tells requests.")
    static void p12_goodAndBadAreTold() {
        RolloutHall x = hall(EdgesOfRolling::withCanary);
        x.requests(0, 0, true, 19, 1);
        due("data are missing", x.step(0), 7);
        x.requests(0, 0, false, 20, 0);
        due("just not worse", x.step(0), 0);
    }

    @Says(promise = 12, value = "`service`: a service")
    static void p12_serviceSmallestAndGreatest() {
        Told five = all(services(5), x -> x.build(0, 0), x -> x.build(4, 0), x -> x.begin(0), x -> x.begin(1),
                x -> x.step(0), x -> x.step(4));
        RolloutHall x = hall(five);
        due("0", x.requests(0, 0, true, 5, 0), 5);
        due("4", x.requests(4, 0, true, 6, 0), 6);
        due("0 is apart", x.requests(0, 0, true, 0, 0), 5);
    }

    @Says(promise = 12, value = "`ring`: 0 to 3")
    static void p12_ringSmallestAndGreatest() {
        RolloutHall x = hall(builds(1), run(0, 4));
        due("0", x.requests(0, 0, false, 5, 0), 5);
        due("3", x.requests(0, 3, false, 6, 0), 6);
        due("0 is apart", x.requests(0, 0, false, 0, 0), 5);
        Check.noSuch("4", () -> x.requests(0, 4, false, 0, 0));
        Check.noSuch("-1", () -> x.requests(0, -1, false, 0, 0));
    }

    @Says(promise = 12, value = "There are the rings 0 to 3; in each one a build of each service runs, or none at first; "
            + "and beside it there may be a canary of that service.")
    static void p12_aCanaryBesideWhatRuns() {
        RolloutHall x = hall(builds(2));
        for (int ring = 0; ring < 4; ring++) {
            due("none at first", x.in(ring, 0, 0), NONE);
            due("nor a canary", x.in(ring, 0, 1), NONE);
        }
        RolloutHall y = hall(EdgesOfRolling::withCanary);
        due("what runs", y.in(0, 0, 0), 0);
        due("the canary", y.in(0, 0, 1), 1);
    }

    @Says(promise = 12, value = "`isCanary`: whether they are of the canary")
    static void p12_ofTheCanaryOrNot() {
        RolloutHall x = hall(EdgesOfRolling::withCanary);
        due("of the canary", x.requests(0, 0, true, 3, 1), 4);
        due("of what runs", x.requests(0, 0, false, 10, 1), 11);
        due("of the canary", x.requests(0, 0, true, 0, 0), 4);
    }

    @Says(promise = 12, value = "`good`: 0 to 1000")
    static void p12_goodSmallestAndGreatest() {
        due("0", hall(EdgesOfRolling::withCanary).requests(0, 0, true, 0, 1), 1);
        due("1000", hall(EdgesOfRolling::withCanary).requests(0, 0, true, 1000, 1), 1001);
    }

    @Says(promise = 12, value = "`bad`: 0 to 1000")
    static void p12_badSmallestAndGreatest() {
        due("0", hall(EdgesOfRolling::withCanary).requests(0, 0, true, 1, 0), 1);
        due("1000", hall(EdgesOfRolling::withCanary).requests(0, 0, true, 1, 1000), 1001);
    }

    @Says(promise = 12, value = "Returns requests of it so far that count for the gate.")
    static void p12_fromNoneToTheMost() {
        RolloutHall x = hall(EdgesOfRolling::withCanary);
        due("none", x.requests(0, 0, true, 0, 0), 0);
        for (int i = 1; i <= 400; i++) {
            due("of the canary", x.requests(0, 0, true, 1000, 1000), 2000 * i);
        }
        due("none of what runs", x.requests(0, 0, false, 0, 0), 0);
    }

    @Says(promise = 12, value = "An object is used for at most 512 calls after it has been made; what later calls answer "
            + "is free.")
    static void p12_the512thCall() {
        Told most = all(builds(1), x -> x.begin(0), x -> x.step(0), times(507, x -> x.requests(0, 0, true, 1000, 1000)));
        due("all of them", hall(most).requests(0, 0, true, 1000, 1000), 1016000);
        due("half of them bad", hall(most).used(0), 0.5f);
        due("at the gate", hall(most).step(0), 8);
        due("going back", hall(most).back(0), 0);
    }

    @Says(promise = 12, value = "Throws `IndexOutOfBoundsException` if there is no such service or ring")
    static void p12_noSuchServiceOrRing() {
        noSuch(NOTHING, x -> x.requests(0, 0, true, 0, 0));
        noSuch(EdgesOfRolling::withCanary, x -> x.requests(1, 0, true, 1, 1), x -> x.requests(-1, 0, true, 1, 1),
                x -> x.requests(LEAST, 0, true, 1, 1), x -> x.requests(GREATEST, 0, true, 1, 1),
                x -> x.requests(0, 4, true, 1, 1), x -> x.requests(0, -1, true, 1, 1),
                x -> x.requests(0, LEAST, false, 1, 1), x -> x.requests(0, GREATEST, false, 1, 1));
    }

    @Says(promise = 12, value = "Throws `IllegalArgumentException` if good or bad is out of range")
    static void p12_goodOrBadOutOfRange() {
        outOfRange(EdgesOfRolling::withCanary, x -> x.requests(0, 0, true, -1, 5),
                x -> x.requests(0, 0, true, 1001, 5), x -> x.requests(0, 0, true, 5, -1),
                x -> x.requests(0, 0, true, 5, 1001), x -> x.requests(0, 0, false, -1, 5),
                x -> x.requests(0, 0, false, 5, 1001), x -> x.requests(0, 0, false, LEAST, 5),
                x -> x.requests(0, 0, false, 5, GREATEST), x -> x.requests(0, 0, true, GREATEST, GREATEST));
    }

    @Says(promise = 12, value = "Throws `IllegalStateException` if there is no canary there")
    static void p12_noCanaryThere() {
        notNow(builds(1), x -> x.requests(0, 0, true, 1, 1));
        notNow(all(builds(1), x -> x.begin(0)), x -> x.requests(0, 0, true, 1, 1));
        notNow(EdgesOfRolling::withCanary, x -> x.requests(0, 1, true, 1, 1));
        notNow(all(builds(1), run(0, 1)), x -> x.requests(0, 0, true, 1, 1), x -> x.requests(0, 1, true, 1, 1));
        notNow(all(EdgesOfRolling::withCanary, x -> x.back(0)), x -> x.requests(0, 0, true, 1, 1));
    }

    @Says(promise = 12, value = ", or none runs")
    static void p12_noneRuns() {
        notNow(builds(1), x -> x.requests(0, 0, false, 1, 1));
        notNow(all(builds(1), x -> x.begin(0), x -> x.step(0)), x -> x.requests(0, 0, false, 1, 1));
        notNow(all(builds(1), run(0, 1)), x -> x.requests(0, 1, false, 1, 1));
        notNow(all(builds(1), run(0, 1), x -> x.back(0)), x -> x.requests(0, 0, false, 1, 1));
    }

    @Says(promise = 12, value = "Requests of a ring are told for the canary and for the build that runs; a canary begins "
            + "with none for both")
    static void p12_aCanaryBeginsWithNone() {
        RolloutHall x = hall(builds(3), run(0, 4), y -> y.requests(0, 0, false, 40, 2), y -> y.begin(1));
        due("the roll-out alone begins nothing", x.requests(0, 0, false, 0, 0), 42);
        x.step(0);
        due("of what runs", x.requests(0, 0, false, 3, 0), 3);
        due("of the canary", x.requests(0, 0, true, 4, 0), 4);
        x.back(0);
        x.begin(2);
        x.step(0);
        due("of the next canary", x.requests(0, 0, true, 1, 0), 1);
        due("of what runs", x.requests(0, 0, false, 2, 0), 2);
        due("in another ring they go on", x.requests(0, 1, false, 0, 0), 0);
    }

    @Says(promise = 12, value = "Requests of a ring are told for the canary and for the build that runs; a canary begins "
            + "with none for both")
    static void p12_inItsOwnRingAndServiceAlone() {
        RolloutHall x = hall(services(2), y -> y.build(0, 0), y -> y.build(1, 0), y -> y.build(1, 0), run(0, 4),
                run(1, 4));
        for (int ring = 0; ring < 4; ring++) {
            x.requests(0, ring, false, 50 + ring, 0);
            x.requests(1, ring, false, 60 + ring, 0);
        }
        x.begin(2);
        x.step(1);
        for (int ring = 0; ring < 4; ring++) {
            due("of the other service", x.requests(0, ring, false, 0, 0), 50 + ring);
            due("of this one", x.requests(1, ring, false, 0, 0), ring == 0 ? 0 : 60 + ring);
        }
    }

    @Says(promise = 12, value = "a canary begins with none for both")
    static void p12_neitherHasBadOnesAtFirst() {
        RolloutHall x = hall(builds(3), run(0, 4), y -> y.begin(1), y -> y.step(0), y -> y.requests(0, 0, true, 0, 1000));
        x.back(0);
        x.begin(2);
        x.step(0);
        x.requests(0, 0, true, 20, 0);
        x.requests(0, 0, false, 20, 0);
        due("the bad ones of the other canary", x.step(0), 0);
        RolloutHall y = hall(builds(2), run(0, 4), z -> z.requests(0, 0, false, 0, 1000), z -> z.begin(1));
        y.step(0);
        y.requests(0, 0, true, 18, 2);
        y.requests(0, 0, false, 20, 0);
        due("the bad ones of what runs", y.step(0), 8);
    }

    @Says(promise = 12, value = "(they begin anew at no other time: when the canary comes to run there, those of what ran "
            + "go on as its own).")
    static void p12_theyBeginAnewAtNoOtherTime() {
        RolloutHall x = hall(EdgesOfRolling::withCanary, y -> y.requests(0, 0, true, 50, 0));
        x.requests(0, 0, false, 25, 0);
        x.pass(600);
        due("in a new window", x.requests(0, 0, true, 0, 0), 50);
        due("comes to run", x.step(0), 0);
        due("those of what ran", x.requests(0, 0, false, 1, 0), 26);
        x.pass(30);
        x.step(0);
        due("a canary in the next ring", x.requests(0, 0, false, 1, 0), 27);
        due("comes back", x.back(0), 0);
        due("go on", x.requests(0, 0, false, 1, 0), 28);
        x.begin(1);
        x.step(0);
        x.requests(0, 0, false, 5, 0);
        x.back(0);
        due("when a canary goes", x.requests(0, 0, false, 1, 0), 6);
    }

    @Says(promise = 12, value = "when the canary comes to run there, those of what ran go on as its own")
    static void p12_whereNoneRanItsOwnAreNone() {
        RolloutHall x = hall(builds(1), y -> y.begin(0), y -> y.step(0), y -> y.requests(0, 0, true, 20, 0));
        x.step(0);
        due("none ran", x.requests(0, 0, false, 0, 0), 0);
        due("its own", x.requests(0, 0, false, 3, 0), 3);
    }

    @Says(promise = 12, value = SEVERAL)
    static void p12_firstOfSeveral() {
        noSuch(builds(1), x -> x.requests(1, 0, true, -1, 0), x -> x.requests(0, 4, true, 0, 1001),
                x -> x.requests(0, -1, false, 0, 0));
        outOfRange(builds(1), x -> x.requests(0, 0, true, -1, 0), x -> x.requests(0, 0, false, 0, 1001));
    }

    @Says(promise = 12, value = UNCHANGED)
    static void p12_refusedChangesNothing() {
        RolloutHall x = hall(EdgesOfRolling::withCanary, passed(60), y -> y.requests(0, 0, true, 19, 0));
        Check.noSuch("no ring 4", () -> x.requests(0, 4, true, 1, 1));
        Check.outOfRange("bad 1001", () -> x.requests(0, 0, true, 1, 1001));
        Check.outOfRange("good -1", () -> x.requests(0, 0, true, -1, 1));
        Check.notNow("no canary there", () -> x.requests(0, 1, true, 1, 1));
        due("19 still", x.requests(0, 0, true, 0, 0), 19);
        due("the window has no bad ones", x.used(0), 0f);
        due("data are missing", x.step(0), 7);
        x.requests(0, 0, true, 0, 1);
        due("one of 20", x.used(0), 0.05f);
    }
}
