/** Promises 1 to 8: a new object, services, builds, columns. */
final class ServicesTest {
    public static void main(String[] args) {
        newObject();
        services();
        needs();
        builds();
        accepts();
        acceptsOnlyApart();
        uses();
        condemn();
        columns();
        columnsInUse();
        columnWithAllBuilds();
        Check.end();
    }

    private static void newObject() {
        RolloutHall x = new RolloutHall();
        Check.due("NONE", RolloutHall.NONE, -1);
        Check.noSuch("no service at first", () -> x.rolling(0));
        Check.noSuch("no build at first", () -> x.plan(0, 0));
        Check.noSuch("no flag at first", () -> x.kill(0));
        Check.noSuch("no incident at first", () -> x.incident(0, 0));
        Check.noSuch("one person at first", () -> x.standIn(0, 1));
        Check.due("one person at first", x.standIn(0, 0), 0);
        Check.due("minute 0 at first", x.pass(1), 1);
        for (int ring = 0; ring < 4; ring++) {
            Check.due("an empty ring is sound", x.isSound(ring), true);
        }
    }

    private static void services() {
        RolloutHall x = new RolloutHall();
        for (int service = 0; service < 5; service++) {
            Check.due("service()", x.service(), service);
        }
        Check.notNow("service() with 5", () -> x.service());
        Check.due("the last one is there", x.rolling(4), -1);
        Check.noSuch("no more than 5", () -> x.rolling(5));
    }

    private static void needs() {
        RolloutHall x = new RolloutHall();
        for (int service = 0; service < 4; service++) {
            x.service();
        }
        Check.due("needs(0, 1)", x.needs(0, 1), 1);
        Check.due("needs(0, 3)", x.needs(0, 3), 2);
        Check.due("needs(1, 0)", x.needs(1, 0), 1);
        Check.notNow("needs it already", () -> x.needs(0, 1));
        Check.outOfRange("itself", () -> x.needs(2, 2));
        Check.noSuch("itself, not there", () -> x.needs(4, 4));
        Check.noSuch("no such first", () -> x.needs(-1, 0));
        Check.noSuch("no such second", () -> x.needs(0, 4));
        x.build(2, 0);
        Check.notNow("the first has builds", () -> x.needs(2, 1));
        Check.notNow("the second has builds", () -> x.needs(1, 2));
        Check.outOfRange("itself goes ahead of the builds", () -> x.needs(2, 2));
        Check.due("nothing was changed by those", x.needs(1, 3), 2);
    }

    private static void builds() {
        RolloutHall x = new RolloutHall();
        x.service();
        Check.noSuch("build() of no service", () -> x.build(1, 10));
        Check.outOfRange("level 10", () -> x.build(0, 10));
        Check.outOfRange("level -1", () -> x.build(0, -1));
        for (int build = 0; build < 24; build++) {
            Check.due("build()", x.build(0, build % 10), build);
        }
        Check.notNow("build() with 24", () -> x.build(0, 0));
        Check.outOfRange("level goes ahead of 24", () -> x.build(0, 10));
        Check.due("the last one begins", x.begin(23), 0);
        Check.noSuch("no build 24", () -> x.begin(24));
    }

    /** The service 0 needs the service 1; the builds of 1 have the levels 0 to 9. */
    private static RolloutHall withLevels() {
        RolloutHall x = new RolloutHall();
        x.service();
        x.service();
        x.needs(0, 1);
        for (int level = 0; level < 10; level++) {
            x.build(1, level);
        }
        x.build(0, 0);
        return x;
    }

    private static void accepts() {
        for (int level = 0; level < 10; level++) {
            RolloutHall all = withLevels();
            Halls.roll(all, level, 1);
            Check.due("all levels at first: " + level, Halls.tryCanary(all, 10), 0);
            RolloutHall some = withLevels();
            some.accepts(10, 1, 0, 0);
            some.accepts(10, 1, 3, 5);
            Halls.roll(some, level, 1);
            Check.due("levels 3 to 5: " + level, Halls.tryCanary(some, 10), level >= 3 && level <= 5 ? 0 : 5);
        }
        RolloutHall x = withLevels();
        Check.noSuch("no build", () -> x.accepts(11, 1, -1, 10));
        Check.noSuch("no service", () -> x.accepts(10, 2, -1, 10));
        Check.outOfRange("lowest -1", () -> x.accepts(10, 1, -1, 5));
        Check.outOfRange("lowest 10", () -> x.accepts(10, 1, 10, 10));
        Check.outOfRange("highest below lowest", () -> x.accepts(10, 1, 5, 4));
        Check.outOfRange("highest 10", () -> x.accepts(10, 1, 5, 10));
        Check.notNow("does not need it", () -> x.accepts(0, 0, 0, 9));
        Check.notNow("does not need itself", () -> x.accepts(10, 0, 0, 9));
        Check.outOfRange("range goes ahead of need", () -> x.accepts(0, 0, 9, 0));
        x.accepts(10, 1, 0, 9);
        x.accepts(10, 1, 9, 9);
        Halls.roll(x, 9, 1);
        Check.due("nothing was changed by those", Halls.tryCanary(x, 10), 0);
    }

    private static void acceptsOnlyApart() {
        RolloutHall x = withLevels();
        Halls.roll(x, 0, 4);
        x.begin(10);
        x.accepts(10, 1, 0, 9);
        x.step(0);
        Check.notNow("is a canary", () -> x.accepts(10, 1, 0, 9));
        Check.notNow("is a canary", () -> x.uses(10, 0));
        x.requests(0, 0, true, 20, 0);
        x.step(0);
        Check.notNow("runs", () -> x.accepts(10, 1, 0, 9));
        Check.notNow("runs", () -> x.uses(10, 0));
        x.back(0);
        x.accepts(10, 1, 0, 9);
        x.uses(10, 0);
        Check.due("apart again", x.rolling(0), -1);
    }

    private static void uses() {
        RolloutHall x = new RolloutHall();
        x.service();
        x.build(0, 0);
        Check.noSuch("no build", () -> x.uses(1, 0));
        Check.noSuch("no column 5", () -> x.uses(0, 5));
        Check.noSuch("no column -1", () -> x.uses(0, -1));
        x.uses(0, 4);
        Check.notNow("uses it already", () -> x.uses(0, 4));
        x.uses(0, 0);
        x.begin(0);
        Check.due("both absent", x.step(0), 4);
        x.column(0, 1);
        x.column(0, 100);
        Check.due("one absent", x.step(0), 4);
        x.column(4, 1);
        Check.due("one empty", x.step(0), 4);
        x.column(4, 99);
        Check.due("one at 99", x.step(0), 4);
        x.column(4, 1);
        Check.due("both whole", x.step(0), 0);
    }

    private static void condemn() {
        RolloutHall x = new RolloutHall();
        x.service();
        Check.noSuch("no build", () -> x.condemn(0));
        x.build(0, 0);
        Check.noSuch("no build -1", () -> x.condemn(-1));
        Check.due("condemn", x.condemn(0), true);
        Check.notNow("begin of a condemned one", () -> x.begin(0));
        Check.due("not any more", x.condemn(0), false);
        Check.due("begin", x.begin(0), 0);
        Check.due("condemn during the roll-out", x.condemn(0), true);
        Check.due("step of a condemned one", x.step(0), 4);
    }

    private static void columns() {
        RolloutHall x = new RolloutHall();
        Check.noSuch("no column 5", () -> x.column(5, 0));
        Check.noSuch("no column -1", () -> x.column(-1, 1));
        Check.outOfRange("what 0", () -> x.column(4, 0));
        Check.outOfRange("what -2", () -> x.column(4, -2));
        Check.outOfRange("what 101", () -> x.column(4, 101));
        Check.notNow("take away an absent one", () -> x.column(4, -1));
        Check.due("add", x.column(4, 77), 0);
        Check.notNow("take away an empty one", () -> x.column(4, -1));
        Check.due("fill", x.column(4, 60), 60);
        Check.due("fill to 99", x.column(4, 39), 99);
        Check.notNow("take away at 99", () -> x.column(4, -1));
        Check.due("fill above 100", x.column(4, 100), 100);
        Check.notNow("fill a whole one", () -> x.column(4, 1));
        Check.outOfRange("range goes ahead", () -> x.column(4, 101));
        Check.due("take away", x.column(4, -1), -1);
        Check.notNow("fill one that is gone", () -> x.column(4, 1));
        Check.notNow("take away one that is gone", () -> x.column(4, -1));
        Check.due("the others stay absent", x.column(3, 100), 0);
    }

    private static void columnsInUse() {
        RolloutHall x = new RolloutHall();
        x.service();
        x.build(0, 0);
        x.build(0, 0);
        x.uses(0, 1);
        x.column(1, 1);
        x.column(1, 100);
        x.begin(0);
        x.step(0);
        Check.notNow("a canary uses it", () -> x.column(1, -1));
        Halls.goOn(x, 0, 4);
        Check.notNow("a build that runs uses it", () -> x.column(1, -1));
        Halls.roll(x, 1, 3);
        Check.notNow("a build runs in ring 3 still", () -> x.column(1, -1));
        Halls.goOn(x, 0, 1);
        Check.due("in the ring 3 it is the former one", x.in(3, 0, 2), 0);
        Check.due("only former ones use it", x.column(1, -1), -1);
        Check.notNow("no roll-out is there", () -> x.back(0));
    }

    private static void columnWithAllBuilds() {
        RolloutHall x = new RolloutHall();
        x.service();
        for (int build = 0; build < 24; build++) {
            x.build(0, 0);
        }
        x.uses(23, 0);
        x.column(0, 1);
        x.column(0, 100);
        x.begin(23);
        x.step(0);
        Check.notNow("the last build uses it", () -> x.column(0, -1));
        x.back(0);
        Check.due("none of 24 uses it", x.column(0, -1), -1);
    }
}
