/** Promises 32 and 33: plans. ModelTest compares more of them with a search of another kind. */
final class PlanTest {
    public static void main(String[] args) {
        wrongPlans();
        noneNeeded();
        oneChange();
        lowestFirst();
        throughBetweenStates();
        notReady();
        canariesAside();
        planned();
        planIsAskingOnly();
        mostStates();
        Check.end();
    }

    private static String plan(RolloutHall x, int ring, int build) {
        int changes = x.plan(ring, build);
        StringBuilder text = new StringBuilder().append(changes).append(':');
        for (int change = 0; change < changes; change++) {
            text.append(' ').append(x.planned(change));
        }
        Check.noSuch("no change behind the last one", () -> x.planned(Math.max(0, changes)));
        return text.toString();
    }

    /** Each service needs the next one; no builds yet. */
    private static RolloutHall chain(int services) {
        RolloutHall x = new RolloutHall();
        for (int service = 0; service < services; service++) {
            x.service();
        }
        for (int service = 0; service + 1 < services; service++) {
            x.needs(service, service + 1);
        }
        return x;
    }

    private static void wrongPlans() {
        RolloutHall x = chain(1);
        x.build(0, 0);
        Check.noSuch("no ring", () -> x.plan(4, 0));
        Check.noSuch("no ring -1", () -> x.plan(-1, 0));
        Check.noSuch("no build", () -> x.plan(0, 1));
        Check.noSuch("no build -1", () -> x.plan(0, -1));
    }

    private static void noneNeeded() {
        RolloutHall x = chain(1);
        x.build(0, 0);
        Halls.roll(x, 0, 1);
        Check.due("runs there", plan(x, 0, 0), "0:");
        Check.due("does not run in ring 1", plan(x, 1, 0), "1: 0");
        x.condemn(0);
        Check.due("runs there, condemned", plan(x, 0, 0), "0:");
        Check.due("condemned", plan(x, 1, 0), "-1:");
    }

    private static void oneChange() {
        RolloutHall x = chain(2);
        x.build(1, 5);
        x.build(0, 0);
        x.build(0, 0);
        Check.due("from none", plan(x, 3, 0), "1: 0");
        Check.due("with one that it needs", plan(x, 3, 2), "2: 0 2");
        x.accepts(2, 1, 6, 9);
        Check.due("that is not accepted", plan(x, 3, 2), "-1:");
        Halls.roll(x, 0, 1);
        Check.due("runs already", plan(x, 0, 1), "1: 1");
    }

    private static void lowestFirst() {
        RolloutHall x = new RolloutHall();
        for (int service = 0; service < 3; service++) {
            x.service();
        }
        x.needs(0, 1);
        x.needs(0, 2);
        x.build(2, 0);
        x.build(1, 0);
        x.build(2, 0);
        x.build(1, 0);
        x.build(0, 0);
        Check.due("the lowest ones", plan(x, 0, 4), "3: 0 1 4");
        x.condemn(0);
        Check.due("the next lowest ones", plan(x, 0, 4), "3: 1 2 4");
        x.condemn(0);
        x.accepts(4, 2, 1, 9);
        Check.due("no level is accepted", plan(x, 0, 4), "-1:");
        x.build(2, 1);
        Check.due("a new one is", plan(x, 0, 4), "3: 1 5 4");
    }

    /** What runs must be changed to a build between first. */
    private static void throughBetweenStates() {
        RolloutHall x = chain(2);
        x.build(1, 1);
        x.build(1, 2);
        x.build(0, 0);
        x.build(0, 0);
        x.build(0, 0);
        x.accepts(2, 1, 1, 1);
        x.accepts(3, 1, 2, 2);
        x.accepts(4, 1, 1, 2);
        Halls.roll(x, 0, 1);
        Halls.roll(x, 2, 1);
        Check.due("over the build 4", plan(x, 0, 1), "2: 4 1");
        Check.due("and to the build 3", plan(x, 0, 3), "3: 4 1 3");
        x.condemn(4);
        Check.due("not without it", plan(x, 0, 3), "-1:");
    }

    private static void notReady() {
        RolloutHall x = chain(2);
        x.build(1, 0);
        x.build(1, 0);
        x.build(0, 0);
        x.uses(0, 2);
        Check.due("its column is absent", plan(x, 0, 0), "-1:");
        Check.due("another one", plan(x, 0, 2), "2: 1 2");
        x.column(2, 1);
        x.column(2, 99);
        Check.due("filled to 99", plan(x, 0, 2), "2: 1 2");
        x.column(2, 1);
        Check.due("whole", plan(x, 0, 2), "2: 0 2");
        x.column(2, -1);
        Check.due("gone", plan(x, 0, 2), "2: 1 2");
    }

    private static void canariesAside() {
        RolloutHall x = chain(2);
        x.build(1, 1);
        x.build(1, 2);
        x.build(0, 0);
        x.build(0, 0);
        x.accepts(2, 1, 1, 1);
        x.accepts(3, 1, 1, 2);
        Halls.roll(x, 0, 4);
        Halls.roll(x, 3, 4);
        x.begin(2);
        x.step(0);
        Check.due("the canary", x.in(0, 0, 1), 2);
        Check.due("a canary does not accept it", plan(x, 0, 1), "1: 1");
        Check.due("a canary is not what runs", plan(x, 0, 2), "1: 2");
    }

    private static void planned() {
        RolloutHall x = chain(2);
        Check.noSuch("none was found", () -> x.planned(0));
        x.build(1, 0);
        x.build(0, 0);
        x.plan(0, 1);
        Check.noSuch("no change -1", () -> x.planned(-1));
        Check.noSuch("no change 2", () -> x.planned(2));
        Check.noSuch("no build 2", () -> x.plan(0, 2));
        Check.due("a call that throws changes nothing", x.planned(0) * 10 + x.planned(1), 1);
        x.condemn(1);
        Check.due("it is what was found then", x.planned(1), 1);
        Check.due("none is found", x.plan(0, 1), -1);
        Check.noSuch("none was found last", () -> x.planned(0));
    }

    private static void planIsAskingOnly() {
        RolloutHall x = chain(2);
        x.build(1, 0);
        x.build(0, 0);
        x.begin(0);
        x.step(1);
        String ahead = Halls.look(x, 2);
        x.plan(0, 1);
        Check.due("nothing is changed", Halls.look(x, 2), ahead);
    }

    /** All states can be reached, but for the one that is looked for. */
    private static void mostStates() {
        RolloutHall x = new RolloutHall();
        for (int service = 0; service < 5; service++) {
            x.service();
        }
        for (int build = 0; build < 24; build++) {
            x.build(build % 5, 0);
        }
        Check.due("one change", plan(x, 0, 23), "1: 23");
        x.condemn(23);
        Check.due("none, after all states", plan(x, 0, 23), "-1:");
        RolloutHall y = new RolloutHall();
        for (int service = 0; service < 5; service++) {
            y.service();
        }
        for (int other = 1; other < 5; other++) {
            y.needs(0, other);
        }
        for (int build = 0; build < 24; build++) {
            y.build(build % 5, build / 5);
        }
        for (int other = 1; other < 5; other++) {
            y.accepts(20, other, other == 4 ? 3 : 4, 9);
        }
        Check.due("the highest ones", plan(y, 0, 20), "5: 19 21 22 23 20");
    }
}
