/** Promises 9 to 12: roll-outs, their steps, going back, requests. */
final class RollingTest {
    public static void main(String[] args) {
        begins();
        wrongSteps();
        wholeWay();
        frozen();
        graveIncidents();
        budgetUsedUp();
        notReady();
        notSoundWithCanary();
        notSoundWhenItRuns();
        canariesCountForSoundness();
        baking();
        missingData();
        worseCanary();
        badOnesOfWhatRuns();
        orderOfReasons();
        back();
        backHalts();
        backMindsSoundness();
        backMindsColumns();
        requests();
        requestsGoOn();
        Check.end();
    }

    private static RolloutHall withBuilds(int count) {
        RolloutHall x = new RolloutHall();
        x.service();
        for (int build = 0; build < count; build++) {
            x.build(0, 0);
        }
        return x;
    }

    /** The service 1 needs the service 0; builds 0 and 1 of 0 have the levels 0 and 1; 2 and 3 are of 1. */
    private static RolloutHall withNeed() {
        RolloutHall x = new RolloutHall();
        x.service();
        x.service();
        x.needs(1, 0);
        x.build(0, 0);
        x.build(0, 1);
        x.build(1, 0);
        x.build(1, 0);
        return x;
    }

    private static void begins() {
        RolloutHall x = withNeed();
        Check.noSuch("no build", () -> x.begin(4));
        Check.noSuch("no build -1", () -> x.begin(-1));
        Check.due("begin", x.begin(2), 1);
        Check.due("becomes a canary in ring 0", x.rolling(1), 20);
        Check.notNow("it has one", () -> x.begin(3));
        Check.notNow("it has one, of this", () -> x.begin(2));
        Check.due("another service", x.begin(0), 0);
        Halls.goOn(x, 0, 4);
        Check.notNow("runs in all rings", () -> x.begin(0));
        Halls.roll(x, 1, 3);
        Halls.goOn(x, 0, 1);
        x.begin(0);
        x.step(0);
        Halls.goOn(x, 0, 1);
        x.back(0);
        Check.due("it came back everywhere", x.rolling(0), -1);
        Check.notNow("runs in all rings", () -> x.begin(1));
    }

    private static void wrongSteps() {
        RolloutHall x = withBuilds(2);
        Check.noSuch("no service", () -> x.step(1));
        Check.noSuch("no service", () -> x.back(-1));
        Check.notNow("no roll-out", () -> x.step(0));
        Check.notNow("no roll-out", () -> x.back(0));
        x.begin(0);
        x.step(0);
        Check.due("canary only", x.in(0, 0, 0) * 10 + x.in(0, 0, 1), -10);
    }

    private static void wholeWay() {
        RolloutHall x = withBuilds(2);
        Halls.roll(x, 0, 4);
        Check.due("over", x.rolling(0), -1);
        x.begin(1);
        for (int ring = 0; ring < 4; ring++) {
            Check.due("becomes one", x.rolling(0), 10 + ring);
            Check.due("canary", x.step(0), 0);
            Check.due("is one", x.rolling(0), 10 + ring);
            Check.due("what runs stays", x.in(ring, 0, 0), 0);
            Check.due("the canary", x.in(ring, 0, 1), 1);
            Check.due("no former one yet", x.in(ring, 0, 2), -1);
            x.requests(0, ring, true, 20, 0);
            x.requests(0, ring, false, 20, 0);
            Check.due("runs", x.step(0), 0);
            Check.due("what runs", x.in(ring, 0, 0), 1);
            Check.due("no canary any more", x.in(ring, 0, 1), -1);
            Check.due("the former one", x.in(ring, 0, 2), 0);
            x.pass(30);
        }
        Check.due("over", x.rolling(0), -1);
        Check.notNow("over", () -> x.step(0));
        Check.notNow("over", () -> x.back(0));
    }

    private static void frozen() {
        RolloutHall x = withBuilds(1);
        x.service();
        x.freeze(1, 0, 100);
        x.freeze(0, 10, 20);
        x.freeze(-1, 20, 21);
        x.begin(0);
        Check.due("of another service", x.step(0), 0);
        x.requests(0, 0, true, 20, 0);
        x.pass(9);
        x.pass(1);
        Check.due("from 10", x.step(0), 1);
        x.pass(9);
        Check.due("at 19", x.step(0), 1);
        x.pass(1);
        Check.due("for all at 20", x.step(0), 1);
        x.pass(1);
        Check.due("at 21 no more", x.step(0), 0);
        RolloutHall y = withBuilds(1);
        y.freeze(-1, 0, 100);
        y.freeze(0, 0, 100);
        y.begin(0);
        y.except(0);
        y.except(0);
        Check.due("with an exception", y.step(0), 0);
        Check.due("a refused step takes none", y.step(0), 7);
        Check.due("one is left", y.except(0), 2);
        y.requests(0, 0, true, 20, 0);
        Check.due("takes one", y.step(0), 0);
        Check.due("refused, not yet 30", y.step(0), 6);
        y.pass(100);
        Check.due("no freeze takes none", y.step(0), 0);
        Check.due("one was left", y.except(0), 2);
    }

    private static void graveIncidents() {
        RolloutHall x = new RolloutHall();
        for (int service = 0; service < 4; service++) {
            x.service();
        }
        x.needs(1, 0);
        x.needs(2, 1);
        for (int service = 0; service < 4; service++) {
            x.build(service, 0);
        }
        Halls.roll(x, 0, 1);
        Halls.roll(x, 1, 1);
        x.begin(2);
        x.begin(3);
        x.alert(0, 1);
        Check.due("severity 1 is none", x.step(0), 0);
        x.alert(0, 2);
        Check.due("its own", x.step(0), 2);
        Check.due("one it needs", x.step(1), 2);
        Check.due("one that is needed by what it needs", x.step(2), 0);
        Check.due("another", x.step(3), 0);
        x.take(0, 0);
        Check.due("taken", x.step(0), 2);
        x.close(0);
        Check.due("closed", x.step(0), 7);
        x.alert(0, 3);
        Check.due("severity 3", x.step(0), 2);
        Check.due("going back", x.back(2), 0);
    }

    private static void budgetUsedUp() {
        RolloutHall x = withBuilds(2);
        Halls.roll(x, 0, 4);
        x.pass(60);
        x.budget(0, 100);
        x.begin(1);
        x.requests(0, 2, false, 90, 10);
        Check.due("just its share", x.step(0), 0);
        x.requests(0, 3, false, 9, 1);
        Check.due("just its share", x.step(0), 7);
        x.requests(0, 0, true, 100, 12);
        Check.due("one more than its share", x.step(0), 3);
        x.budget(0, 105);
        Check.due("of a greater budget", x.step(0), 7);
        x.budget(0, 1);
        x.pass(59);
        Check.due("the window's last minute", x.step(0), 3);
        x.pass(1);
        Check.due("the next window", x.step(0), 7);
        x.requests(0, 0, true, 0, 1);
        Check.due("without good ones", x.step(0), 3);
        x.budget(0, 1000);
        Check.due("1000 of 1000 is never used up", x.step(0), 7);
    }

    private static void notReady() {
        RolloutHall x = withBuilds(1);
        x.uses(0, 0);
        x.column(0, 1);
        x.column(0, 100);
        x.begin(0);
        x.condemn(0);
        Check.due("condemned", x.step(0), 4);
        x.condemn(0);
        Check.due("canary", x.step(0), 0);
        x.condemn(0);
        Check.due("condemned at the gate", x.step(0), 4);
        x.condemn(0);
        Check.due("gate", x.step(0), 7);
        x.back(0);
        x.column(0, -1);
        x.begin(0);
        Check.due("gone for good", x.step(0), 4);
    }

    private static void notSoundWithCanary() {
        RolloutHall x = withNeed();
        x.accepts(2, 0, 0, 0);
        x.begin(2);
        Check.due("none runs", x.step(1), 5);
        x.begin(0);
        x.step(0);
        Check.due("a canary only", x.step(1), 5);
        Halls.goOn(x, 0, 1);
        Check.due("one runs", x.step(1), 0);
        Halls.goOn(x, 1, 1);
        Halls.goOn(x, 0, 3);
        x.begin(1);
        Check.due("a canary not accepted by what runs", x.step(0), 5);
        Check.due("sound", x.isSound(0), true);
    }

    private static void notSoundWhenItRuns() {
        RolloutHall x = withNeed();
        x.accepts(2, 0, 0, 0);
        x.accepts(3, 0, 1, 1);
        Halls.roll(x, 0, 4);
        Halls.roll(x, 2, 1);
        x.back(1);
        x.begin(1);
        x.step(0);
        x.begin(2);
        Check.due("a canary that is not accepted", x.step(1), 5);
        x.back(1);
        x.begin(3);
        Check.due("what runs is not accepted", x.step(1), 5);
        Halls.goOn(x, 0, 1);
        Check.due("now it is", x.step(1), 0);
        Check.due("nothing else runs", x.back(0), 1);
        Check.due("halted, as the canary needs it", x.rolling(0), 14);
    }

    /** Two services that need one another never come to run. */
    private static void canariesCountForSoundness() {
        RolloutHall x = new RolloutHall();
        x.service();
        x.service();
        x.needs(0, 1);
        x.needs(1, 0);
        x.build(0, 0);
        x.build(1, 0);
        x.begin(0);
        x.begin(1);
        Check.due("neither is first", x.step(0) * 10 + x.step(1), 55);
    }

    private static void baking() {
        RolloutHall x = withBuilds(1);
        x.begin(0);
        for (int ring = 0; ring < 4; ring++) {
            Check.due("canary in " + ring, x.step(0), 0);
            x.pass(100);
            x.requests(0, ring, true, 20, 0);
            Check.due("runs in " + ring, x.step(0), 0);
            if (ring < 3) {
                Check.due("at once", x.step(0), 6);
                x.pass(29);
                Check.due("after 29", x.step(0), 6);
                Check.due("no canary", x.in(ring + 1, 0, 1), -1);
                x.pass(1);
            }
        }
    }

    private static void missingData() {
        RolloutHall x = withBuilds(2);
        x.begin(0);
        x.step(0);
        Check.due("none", x.step(0), 7);
        x.requests(0, 0, true, 10, 9);
        Check.due("19", x.step(0), 7);
        x.requests(0, 0, true, 1, 0);
        Check.due("20, but worse than none", x.step(0), 8);
        x.requests(0, 0, true, 1000, 0);
        Check.due("enough", x.step(0), 0);
        x.pass(30);
        Halls.goOn(x, 0, 3);
        x.requests(0, 0, false, 1000, 0);
        x.begin(1);
        x.step(0);
        x.requests(0, 0, true, 20, 0);
        Check.due("those of what runs begin anew", x.step(0), 7);
        x.requests(0, 0, false, 19, 0);
        Check.due("19 of what runs", x.step(0), 7);
        x.requests(0, 0, false, 0, 1);
        Check.due("20 of what runs", x.step(0), 0);
    }

    private static void worseCanary() {
        gate(95, 5, 0, 0, 0);
        gate(94, 5, 0, 0, 8);
        gate(949, 50, 0, 0, 8);
        gate(950, 50, 0, 0, 0);
        gate(90, 10, 95, 5, 0);
        gate(89, 10, 95, 5, 8);
        gate(90, 10, 96, 5, 8);
        gate(90, 10, 1000, 0, 8);
        gate(0, 1000, 950, 49, 8);
        gate(0, 1000, 50, 949, 8);
        gate(0, 1000, 50, 950, 0);
        gate(20, 0, 0, 20, 0);
        gate(700, 300, 750, 250, 0);
        gate(699, 300, 750, 250, 8);
    }

    /** The bad ones of what runs are counted over calls, and begin anew with the canary. */
    private static void badOnesOfWhatRuns() {
        RolloutHall x = withBuilds(2);
        Halls.roll(x, 0, 4);
        x.requests(0, 0, false, 0, 1000);
        x.begin(1);
        x.step(0);
        x.requests(0, 0, true, 80, 20);
        x.requests(0, 0, false, 85, 0);
        x.requests(0, 0, false, 0, 10);
        Check.due("20 of 100 by 10 of 95", x.step(0), 8);
        x.requests(0, 0, false, 0, 5);
        Check.due("20 of 100 by 15 of 100", x.step(0), 0);
    }

    private static void gate(int good, int bad, int otherGood, int otherBad, int want) {
        RolloutHall x = withBuilds(2);
        boolean isFirst = otherGood + otherBad == 0;
        if (!isFirst) {
            Halls.roll(x, 1, 4);
        }
        x.begin(0);
        x.step(0);
        x.requests(0, 0, true, good, bad);
        if (!isFirst) {
            x.requests(0, 0, false, otherGood, otherBad);
        }
        Check.due("gate of " + good + " " + bad + " by " + otherGood + " " + otherBad, x.step(0), want);
        Check.due("what runs", x.in(0, 0, 0), want == 0 ? 0 : isFirst ? -1 : 1);
    }

    /** All reasons are so; they are taken away one after the other. */
    private static void orderOfReasons() {
        RolloutHall x = withNeed();
        x.uses(2, 0);
        x.budget(1, 1);
        x.accepts(2, 0, 0, 0);
        Halls.roll(x, 0, 4);
        x.column(0, 1);
        x.column(0, 100);
        Halls.roll(x, 2, 1);
        x.back(1);
        x.begin(2);
        x.step(1);
        x.requests(1, 0, true, 20, 0);
        x.step(1);
        x.requests(1, 0, false, 0, 1);
        x.condemn(2);
        x.alert(0, 3);
        x.freeze(1, 0, 9999);
        Check.due("1 first", x.step(1), 1);
        x.except(1);
        Check.due("2 next", x.step(1), 2);
        x.take(0, 0);
        x.close(0);
        Check.due("3 next", x.step(1), 3);
        x.budget(1, 1000);
        Check.due("4 next", x.step(1), 4);
        x.condemn(2);
        Check.due("6 at last", x.step(1), 6);
        x.pass(30);
        Check.due("done", x.step(1), 0);
        x.requests(1, 1, true, 0, 10);
        Check.due("1, the exception was taken", x.step(1), 1);
        x.except(1);
        Check.due("7 ahead of 8", x.step(1), 7);
        x.requests(1, 1, true, 0, 10);
        Check.due("8 at last", x.step(1), 8);
        soundAheadOfBaking();
    }

    private static void soundAheadOfBaking() {
        RolloutHall x = withNeed();
        Halls.roll(x, 0, 1);
        x.begin(2);
        x.step(1);
        x.requests(1, 0, true, 20, 0);
        x.step(1);
        Check.due("5 ahead of 6", x.step(1), 5);
        Halls.goOn(x, 0, 1);
        Check.due("sound and baked", x.step(1), 0);
    }

    private static void back() {
        RolloutHall x = withBuilds(3);
        Halls.roll(x, 0, 4);
        x.begin(1);
        Check.due("without a step", x.back(0), 0);
        Check.due("over", x.rolling(0), -1);
        Check.due("nothing else", x.in(0, 0, 0), 0);
        x.begin(1);
        x.step(0);
        Check.due("a canary", x.back(0), 0);
        Check.due("it goes", x.in(0, 0, 1), -1);
        Halls.roll(x, 1, 2);
        x.step(0);
        x.freeze(-1, 0, 9999);
        x.alert(0, 3);
        Check.due("two rings and a canary, frozen", x.back(0), 0);
        for (int ring = 0; ring < 4; ring++) {
            Check.due("what runs", x.in(ring, 0, 0), 0);
            Check.due("no canary", x.in(ring, 0, 1), -1);
            Check.due("no former one", x.in(ring, 0, 2), -1);
        }
        Check.due("over", x.rolling(0), -1);
        Check.due("it can begin again", x.begin(1), 0);
    }

    private static void backHalts() {
        RolloutHall x = withBuilds(3);
        Halls.roll(x, 0, 1);
        Halls.goOn(x, 0, 3);
        Halls.roll(x, 1, 4);
        Halls.roll(x, 2, 3);
        x.step(0);
        x.condemn(1);
        Check.due("the former one is condemned", x.back(0), 3);
        Check.due("halted", x.rolling(0), 24);
        Check.due("the canary went", x.in(3, 0, 1), -1);
        Check.due("it runs", x.in(2, 0, 0), 2);
        Check.due("the former one stays", x.in(2, 0, 2), 1);
        Check.notNow("no steps", () -> x.step(0));
        Check.notNow("it has a roll-out", () -> x.begin(0));
        Check.due("again", x.back(0), 3);
        x.condemn(1);
        x.condemn(2);
        Check.due("at last", x.back(0), 0);
        Check.due("over", x.rolling(0), -1);
        Check.due("what runs", x.in(0, 0, 0), 1);
    }

    private static void backMindsSoundness() {
        RolloutHall x = withNeed();
        Halls.roll(x, 0, 4);
        Halls.roll(x, 1, 3);
        x.accepts(2, 0, 1, 1);
        Halls.roll(x, 2, 2);
        Check.due("comes back in ring 2 only", x.back(0), 2);
        Check.due("ring 2", x.in(2, 0, 0), 0);
        Check.due("ring 2 has no former one", x.in(2, 0, 2), -1);
        Check.due("ring 1", x.in(1, 0, 0), 1);
        Check.due("halted", x.rolling(0), 14);
        Check.due("the other one", x.back(1), 0);
        Check.due("none runs", x.in(0, 1, 0), -1);
        Check.due("now it goes", x.back(0), 0);
        Check.due("ring 0", x.in(0, 0, 0), 0);
    }

    private static void backMindsColumns() {
        RolloutHall x = withBuilds(2);
        x.uses(0, 3);
        x.column(3, 1);
        x.column(3, 100);
        Halls.roll(x, 0, 1);
        Halls.goOn(x, 0, 3);
        Halls.roll(x, 1, 3);
        Check.notNow("ring 3 uses it", () -> x.column(3, -1));
        Halls.goOn(x, 0, 1);
        x.column(3, -1);
        Check.notNow("over", () -> x.back(0));
        RolloutHall y = withBuilds(2);
        y.uses(0, 3);
        y.column(3, 1);
        y.column(3, 100);
        Halls.roll(y, 0, 1);
        Check.due("none comes back without columns", y.back(0), 0);
        Halls.roll(y, 1, 1);
        y.column(3, -1);
        Check.due("none is former", y.back(0), 0);
    }

    private static void requests() {
        RolloutHall x = withBuilds(1);
        Check.noSuch("no service", () -> x.requests(1, 0, true, -1, 0));
        Check.noSuch("no ring", () -> x.requests(0, 4, true, -1, 0));
        Check.noSuch("no ring -1", () -> x.requests(0, -1, true, 0, 0));
        Check.outOfRange("good -1", () -> x.requests(0, 0, true, -1, 0));
        Check.outOfRange("good 1001", () -> x.requests(0, 0, true, 1001, 0));
        Check.outOfRange("bad -1", () -> x.requests(0, 0, true, 0, -1));
        Check.outOfRange("bad 1001", () -> x.requests(0, 0, true, 0, 1001));
        Check.notNow("no canary", () -> x.requests(0, 0, true, 0, 0));
        Check.notNow("none runs", () -> x.requests(0, 0, false, 0, 0));
        x.begin(0);
        x.step(0);
        Check.notNow("none runs", () -> x.requests(0, 0, false, 5, 5));
        Check.due("none", x.requests(0, 0, true, 0, 0), 0);
        Check.due("all", x.requests(0, 0, true, 1000, 1000), 2000);
        Check.due("more", x.requests(0, 0, true, 1, 2), 2003);
        Check.due("those refused are not counted", x.used(0), 1000f * 1002 / (1000f * 2003));
        Check.notNow("no canary in ring 1", () -> x.requests(0, 1, true, 0, 0));
    }

    private static void requestsGoOn() {
        RolloutHall x = withBuilds(2);
        Halls.roll(x, 0, 4);
        Check.due("none of what ran, as none ran", x.requests(0, 0, false, 7, 0), 7);
        x.begin(1);
        x.step(0);
        Check.due("anew", x.requests(0, 0, false, 25, 0), 25);
        Check.due("canary", x.requests(0, 0, true, 40, 0), 40);
        x.step(0);
        Check.notNow("no canary any more", () -> x.requests(0, 0, true, 1, 0));
        Check.due("those of what ran go on", x.requests(0, 0, false, 1, 0), 26);
        x.back(0);
        Check.due("and when it comes back", x.requests(0, 0, false, 1, 0), 27);
        x.begin(1);
        x.step(0);
        Check.due("a canary begins with none", x.requests(0, 0, true, 3, 0), 3);
        x.back(0);
        Check.due("when the canary goes, they go on", x.requests(0, 0, false, 9, 0), 9);
        Check.due("other rings apart", x.requests(0, 1, false, 2, 0), 2);
    }
}
