/** Edges of the promises 13 to 16: freezes, exceptions, budgets. */
final class EdgesOfBudgets extends Edges {

    // ---- promise 13: freeze

    /** Whether the freeze holds for the service 0 at the minute, as its first step tells. */
    private static boolean holds(Told freeze, int minute) {
        return hall(builds(1), x -> x.begin(0), freeze, passed(minute)).step(0) == 1;
    }

    @Says(promise = 13, value = "Tells a freeze.")
    static void p13_itHoldsFromThenOn() {
        RolloutHall x = hall(builds(1), y -> y.begin(0), passed(5));
        due("ahead of it", x.step(0), 0);
        x.requests(0, 0, true, 20, 0);
        x.freeze(0, 0, 9);
        due("behind it", x.step(0), 1);
    }

    @Says(promise = 13, value = "`service`: a service, or -1 for all")
    static void p13_serviceSmallestAndGreatestAndAll() {
        Told five = all(services(5), x -> x.build(0, 0), x -> x.build(4, 0), x -> x.begin(0), x -> x.begin(1));
        int[][] want = {{1, 1}, {1, 0}, {0, 1}};
        int[] services = {-1, 0, 4};
        for (int i = 0; i < 3; i++) {
            int service = services[i];
            RolloutHall x = hall(five, y -> y.freeze(service, 0, 1));
            due("of 0 by one of " + service, x.step(0), want[i][0]);
            due("of 4 by one of " + service, x.step(4), want[i][1]);
        }
    }

    @Says(promise = 13, value = "`from`: 0 to 9999")
    static void p13_fromSmallestAndGreatest() {
        due("0", hall(services(1)).freeze(0, 0, 9999), 1);
        due("9998", hall(services(1)).freeze(0, 9998, 9999), 1);
        outOfRange(services(1), x -> x.freeze(0, 9999, 9999), x -> x.freeze(0, 9999, 10000));
    }

    @Says(promise = 13, value = "`to`: from + 1 to 9999")
    static void p13_toSmallestAndGreatest() {
        due("from + 1", holds(x -> x.freeze(0, 7, 8), 7), true);
        due("from + 1 ends then", holds(x -> x.freeze(0, 7, 8), 8), false);
        due("9999", holds(x -> x.freeze(0, 0, 9999), 9998), true);
        due("9999 ends then", holds(x -> x.freeze(0, 0, 9999), 9999), false);
    }

    @Says(promise = 13, value = "A freeze holds from a minute up to ahead of another one, for a service or all.")
    static void p13_firstAndLastMinute() {
        for (int service = -1; service <= 0; service++) {
            int of = service;
            Told freeze = x -> x.freeze(of, 600, 1200);
            due("ahead of its first minute", holds(freeze, 599), false);
            due("its first minute", holds(freeze, 600), true);
            due("its last minute", holds(freeze, 1199), true);
            due("behind its last minute", holds(freeze, 1200), false);
        }
        due("between two", holds(all(x -> x.freeze(0, 0, 5), x -> x.freeze(0, 6, 9)), 5), false);
        due("the first of two", holds(all(x -> x.freeze(0, 0, 5), x -> x.freeze(0, 6, 9)), 4), true);
        due("the second of two", holds(all(x -> x.freeze(0, 0, 5), x -> x.freeze(0, 6, 9)), 6), true);
    }

    @Says(promise = 13, value = "Returns how many were told.")
    static void p13_fromOneToEight() {
        RolloutHall x = hall(services(2));
        for (int told = 1; told <= 8; told++) {
            due("freeze()", x.freeze(told % 3 - 1, 0, 9), told);
        }
    }

    @Says(promise = 13, value = "Throws `IndexOutOfBoundsException` if there is no such service")
    static void p13_noSuchService() {
        noSuch(services(2), x -> x.freeze(-2, 0, 1), x -> x.freeze(2, 0, 1), x -> x.freeze(LEAST, 0, 1),
                x -> x.freeze(GREATEST, 0, 1));
        noSuch(NOTHING, x -> x.freeze(0, 0, 1));
        due("all, without services", new RolloutHall().freeze(-1, 0, 1), 1);
    }

    @Says(promise = 13, value = "Throws `IllegalArgumentException` if from or to is out of range")
    static void p13_fromOrToOutOfRange() {
        outOfRange(services(1), x -> x.freeze(0, -1, 5), x -> x.freeze(0, 10000, 10001), x -> x.freeze(0, LEAST, 5),
                x -> x.freeze(0, GREATEST, GREATEST), x -> x.freeze(0, GREATEST, LEAST), x -> x.freeze(-1, -1, 5));
        outOfRange(services(1), x -> x.freeze(0, 5, 5), x -> x.freeze(0, 5, 4), x -> x.freeze(0, 5, 10000),
                x -> x.freeze(0, 0, 0), x -> x.freeze(0, 0, -1), x -> x.freeze(0, 0, LEAST),
                x -> x.freeze(0, 0, GREATEST), x -> x.freeze(-1, 9999, 9999));
    }

    @Says(promise = 13, value = "Throws `IllegalStateException` if 8 were told")
    static void p13_eightWereTold() {
        Told seven = all(services(2), times(7, x -> x.freeze(0, 0, 1)));
        due("the last one that is taken", hall(seven).freeze(1, 0, 1), 8);
        notNow(all(seven, x -> x.freeze(-1, 0, 1)), x -> x.freeze(0, 5, 6), x -> x.freeze(1, 5, 6),
                x -> x.freeze(-1, 5, 6));
        notNow(all(seven, x -> x.freeze(1, 0, 1), passed(600)), x -> x.freeze(0, 700, 800));
    }

    @Says(promise = 13, value = SEVERAL)
    static void p13_firstOfSeveral() {
        Told full = all(services(1), times(8, x -> x.freeze(0, 0, 1)));
        noSuch(full, x -> x.freeze(1, 0, 1), x -> x.freeze(1, 5, 5), x -> x.freeze(-2, -1, 0));
        outOfRange(full, x -> x.freeze(0, 5, 5), x -> x.freeze(-1, -1, 5));
    }

    @Says(promise = 13, value = UNCHANGED)
    static void p13_refusedChangesNothing() {
        RolloutHall x = hall(builds(1), y -> y.begin(0), times(7, y -> y.freeze(0, 0, 1)), passed(1));
        Check.outOfRange("to 10000", () -> x.freeze(0, 0, 10000));
        Check.outOfRange("from -1", () -> x.freeze(0, -1, 9));
        Check.noSuch("no service 1", () -> x.freeze(1, 0, 9));
        due("the eighth", x.freeze(0, 0, 1), 8);
        Check.notNow("8 were told", () -> x.freeze(0, 0, 9999));
        due("none holds", x.step(0), 0);
    }

    // ---- promise 14: except

    @Says(promise = 14, value = "Gives a service an exception more.")
    static void p14_oneStepMore() {
        RolloutHall x = hall(builds(1), y -> y.begin(0), y -> y.freeze(0, 0, 9));
        due("without", x.step(0), 1);
        x.except(0);
        due("with one", x.step(0), 0);
    }

    @Says(promise = 14, value = "`service`: a service")
    static void p14_serviceSmallestAndGreatest() {
        RolloutHall x = hall(services(5), y -> y.except(0), y -> y.except(0));
        due("4 has none yet", x.except(4), 1);
        due("0 has two", x.except(0), 3);
    }

    @Says(promise = 14, value = "Returns how many it has then.")
    static void p14_fromOneToNine() {
        RolloutHall x = hall(builds(1));
        for (int count = 1; count <= 9; count++) {
            due("except()", x.except(0), count);
        }
    }

    @Says(promise = 14, value = "Throws `IndexOutOfBoundsException` if there is no such service")
    static void p14_noSuchService() {
        noSuch(NOTHING, x -> x.except(0));
        noSuch(services(2), x -> x.except(2), x -> x.except(-1), x -> x.except(LEAST), x -> x.except(GREATEST));
        noSuch(services(5), x -> x.except(5));
    }

    @Says(promise = 14, value = "Throws `IllegalStateException` if it has 9")
    static void p14_itHasNine() {
        Told eight = all(builds(1), times(8, x -> x.except(0)));
        due("the last one that is given", hall(eight).except(0), 9);
        notNow(all(eight, x -> x.except(0)), x -> x.except(0));
        RolloutHall x = hall(eight, y -> y.except(0), y -> y.begin(0), y -> y.freeze(-1, 0, 9), y -> y.step(0));
        due("one was taken", x.except(0), 9);
        Check.notNow("9 again", () -> x.except(0));
        RolloutHall other = hall(services(2), times(9, y -> y.except(0)));
        due("of another service", other.except(1), 1);
    }

    @Says(promise = 14, value = SEVERAL)
    static void p14_firstOfSeveral() {
        noSuch(all(services(1), times(9, x -> x.except(0))), x -> x.except(1), x -> x.except(-1));
    }

    @Says(promise = 14, value = UNCHANGED)
    static void p14_refusedChangesNothing() {
        RolloutHall x = hall(builds(1), times(9, y -> y.except(0)), y -> y.begin(0), y -> y.freeze(0, 0, 9999));
        Check.notNow("it has 9", () -> x.except(0));
        Check.noSuch("no service 1", () -> x.except(1));
        x.step(0);
        due("8 were left", x.except(0), 9);
    }

    // ---- promise 15: budget

    @Says(promise = 15, value = "Sets the budget of a service.")
    static void p15_itHoldsFromThenOn() {
        RolloutHall x = hall(builds(1), y -> y.begin(0), y -> y.step(0), y -> y.requests(0, 0, true, 999, 1));
        x.budget(0, 1);
        due("just its share", x.step(0), 0);
        RolloutHall z = hall(builds(1), y -> y.begin(0), y -> y.step(0), y -> y.requests(0, 0, true, 998, 1));
        z.budget(0, 1);
        due("above its share", z.step(0), 3);
        z.budget(0, 2);
        due("of a greater one", z.step(0), 0);
    }

    @Says(promise = 15, value = "`service`: a service")
    static void p15_serviceSmallestAndGreatest() {
        RolloutHall x = hall(services(5), y -> y.budget(0, 5), y -> y.budget(4, 6));
        due("0", x.budget(0, 1), 5);
        due("4", x.budget(4, 1), 6);
        due("3 has none told", x.budget(3, 1), 1000);
    }

    @Says(promise = 15, value = "`share`: 1 to 1000: bad ones of 1000")
    static void p15_shareSmallestAndGreatest() {
        due("1", hall(services(1), x -> x.budget(0, 1)).budget(0, 2), 1);
        due("1000", hall(services(1), x -> x.budget(0, 1), x -> x.budget(0, 1000)).budget(0, 2), 1000);
    }

    @Says(promise = 15, value = "Returns what it was.")
    static void p15_whatItWas() {
        RolloutHall x = hall(services(1));
        due("at first", x.budget(0, 7), 1000);
        due("7", x.budget(0, 7), 7);
        due("7 again", x.budget(0, 999), 7);
        due("999", x.budget(0, 1), 999);
    }

    @Says(promise = 15, value = "The budget of a service is so many bad ones of 1000 requests, 1000 at first")
    static void p15_at1000ItIsNeverUsedUp() {
        RolloutHall x = hall(builds(1), y -> y.begin(0), y -> y.step(0), y -> y.requests(0, 0, true, 0, 1000));
        due("all of them bad", x.step(0), 8);
        x.budget(0, 999);
        due("at 999", x.step(0), 3);
    }

    @Says(promise = 15, value = "; it is used up if in the present window of 60 minutes (0 to 59, 60 to 119, and so on) "
            + "there were requests of it, of canaries and others, in all rings, and more of them bad than that share.")
    static void p15_ofThePresentWindow() {
        Told bad = all(builds(1), x -> x.begin(0), x -> x.step(0), x -> x.budget(0, 1), passed(55),
                x -> x.requests(0, 0, true, 0, 20));
        due("55", hall(bad).step(0), 3);
        due("59", hall(bad, passed(4)).step(0), 3);
        due("60", hall(bad, passed(5)).step(0), 8);
        Told next = all(bad, passed(5), x -> x.requests(0, 0, true, 0, 1));
        due("60, with another one", hall(next).step(0), 3);
        due("119", hall(next, passed(59)).step(0), 3);
        due("120", hall(next, passed(60)).step(0), 8);
        due("180", hall(next, passed(120)).step(0), 8);
    }

    @Says(promise = 15, value = "there were requests of it, of canaries and others, in all rings")
    static void p15_ofCanariesAndOthersInAllRings() {
        Told rolling = all(builds(2), run(0, 4), x -> x.begin(1), x -> x.step(0), x -> x.budget(0, 100));
        for (int ring = 0; ring < 4; ring++) {
            int told = ring;
            due("of what runs", hall(rolling, x -> x.requests(0, told, false, 8, 1)).step(0), 3);
        }
        due("of the canary", hall(rolling, x -> x.requests(0, 0, true, 8, 1)).step(0), 3);
        Told all = all(rolling, x -> x.requests(0, 0, true, 25, 2), x -> x.requests(0, 0, false, 30, 3),
                x -> x.requests(0, 1, false, 0, 1), x -> x.requests(0, 3, false, 35, 4));
        due("10 of 100 in all", hall(all).step(0), 0);
        due("11 of 101", hall(all, x -> x.requests(0, 2, false, 0, 1)).step(0), 3);
        due("11 of 110", hall(all, x -> x.requests(0, 2, false, 9, 1)).step(0), 0);
    }

    @Says(promise = 15, value = "Throws `IndexOutOfBoundsException` if there is no such service")
    static void p15_noSuchService() {
        noSuch(NOTHING, x -> x.budget(0, 1));
        noSuch(services(2), x -> x.budget(2, 1), x -> x.budget(-1, 1), x -> x.budget(LEAST, 1),
                x -> x.budget(GREATEST, 1));
        noSuch(services(5), x -> x.budget(5, 1));
    }

    @Says(promise = 15, value = "Throws `IllegalArgumentException` if share is out of range")
    static void p15_shareOutOfRange() {
        outOfRange(services(1), x -> x.budget(0, 0), x -> x.budget(0, 1001), x -> x.budget(0, -1),
                x -> x.budget(0, LEAST), x -> x.budget(0, GREATEST));
    }

    @Says(promise = 15, value = SEVERAL)
    static void p15_firstOfSeveral() {
        noSuch(services(1), x -> x.budget(1, 0), x -> x.budget(-1, 1001));
    }

    @Says(promise = 15, value = UNCHANGED)
    static void p15_refusedChangesNothing() {
        RolloutHall x = hall(services(1), y -> y.budget(0, 77));
        Check.outOfRange("0", () -> x.budget(0, 0));
        Check.outOfRange("1001", () -> x.budget(0, 1001));
        Check.noSuch("no service 1", () -> x.budget(1, 5));
        due("what it was", x.budget(0, 1), 77);
    }

    // ---- promise 16: used

    /** The builds 0 and 1 of the services 0 and 1 run in all rings; the window has no requests yet. */
    private static void running(RolloutHall x) {
        all(services(2), y -> y.build(0, 0), y -> y.build(1, 0), y -> y.build(0, 0), run(0, 4), run(1, 4)).to(x);
    }

    @Says(promise = 16, value = "Returns how much of the budget of a service is used in the present window: 1000 times the "
            + "bad ones, as a float, divided by the share times all requests, as a float")
    static void p16_theShareOfTheBudget() {
        RolloutHall x = hall(EdgesOfBudgets::running, y -> y.requests(0, 1, false, 2, 1));
        due("1 of 3", x.used(0), 1000f / 3000f);
        x.budget(0, 1);
        due("of 1", x.used(0), 1000f / 3f);
        x.budget(0, 999);
        due("of 999", x.used(0), 1000f / 2997f);
        due("another service", x.used(1), 0f);
    }

    @Says(promise = 16, value = "1000 times the bad ones, as a float, divided by the share times all requests, as a float")
    static void p16_leastAndMost() {
        RolloutHall none = hall(EdgesOfBudgets::running, y -> y.requests(0, 0, false, 1000, 0));
        due("no bad ones", none.used(0), 0f);
        RolloutHall all = hall(EdgesOfBudgets::running, y -> y.requests(0, 0, false, 0, 1000));
        due("all bad ones", all.used(0), 1f);
        all.budget(0, 1);
        due("of the least budget", all.used(0), 1000f);
        RolloutHall one = hall(EdgesOfBudgets::running, y -> y.requests(0, 0, false, 0, 1), y -> y.budget(0, 1));
        due("one request and the least budget", one.used(0), 1000f);
        RolloutHall many = hall(EdgesOfBudgets::running, times(400, y -> y.requests(0, 0, false, 1000, 1000)));
        many.requests(0, 0, false, 0, 1);
        due("400001 of 800001", many.used(0), (float) 400001000L / (float) 800001000L);
        many.budget(0, 7);
        due("of 7", many.used(0), (float) 400001000L / (float) 5600007L);
    }

    @Says(promise = 16, value = "in the present window")
    static void p16_ofThePresentWindow() {
        RolloutHall x = hall(EdgesOfBudgets::running, y -> y.requests(0, 0, false, 1, 1));
        x.pass(59);
        due("its last minute", x.used(0), 0.5f);
        x.pass(1);
        due("the next one's first minute", x.used(0), 0f);
        x.requests(0, 0, false, 3, 1);
        x.requests(0, 1, false, 4, 0);
        due("its own", x.used(0), 0.125f);
        x.pass(600);
        due("ten windows on", x.used(0), 0f);
        x.requests(0, 0, false, 0, 1);
        x.pass(60);
        due("a whole window on", x.used(0), 0f);
    }

    @Says(promise = 16, value = "; 0 without requests.")
    static void p16_withoutRequests() {
        due("none at all", hall(services(1)).used(0), 0f);
        due("none are told", hall(EdgesOfBudgets::running, x -> x.requests(0, 0, false, 0, 0)).used(0), 0f);
        due("at the least budget", hall(services(1), x -> x.budget(0, 1)).used(0), 0f);
    }

    @Says(promise = 16, value = "`service`: a service")
    static void p16_serviceSmallestAndGreatest() {
        RolloutHall x = hall(services(5), y -> y.build(0, 0), y -> y.build(4, 0), y -> y.begin(0), y -> y.begin(1),
                y -> y.step(0), y -> y.step(4), y -> y.requests(0, 0, true, 3, 1), y -> y.requests(4, 0, true, 1, 1));
        due("0", x.used(0), 0.25f);
        due("4", x.used(4), 0.5f);
        due("3", x.used(3), 0f);
    }

    @Says(promise = 16, value = "Returns that.")
    static void p16_askingChangesNothing() {
        changesNothing(all(EdgesOfBudgets::running, x -> x.requests(0, 0, false, 3, 2)), x -> x.used(0), x -> x.used(1));
    }

    @Says(promise = 16, value = "Throws `IndexOutOfBoundsException` if there is no such service")
    static void p16_noSuchService() {
        noSuch(NOTHING, x -> x.used(0));
        noSuch(services(2), x -> x.used(2), x -> x.used(-1), x -> x.used(LEAST), x -> x.used(GREATEST));
        noSuch(services(5), x -> x.used(5));
    }

    @Says(promise = 16, value = UNCHANGED)
    static void p16_refusedChangesNothing() {
        RolloutHall x = hall(EdgesOfBudgets::running, y -> y.requests(0, 0, false, 1, 1));
        Check.noSuch("no service 2", () -> x.used(2));
        due("as ahead of it", x.used(0), 0.5f);
    }
}
