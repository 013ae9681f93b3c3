/** Promises 22 to 28: people, turns, incidents, time. */
final class DutyTest {
    public static void main(String[] args) {
        people();
        turns();
        standIns();
        alerts();
        mostIncidents();
        pages();
        pagesOfOne();
        newPeople();
        takes();
        closes();
        asks();
        passes();
        Check.end();
    }

    private static RolloutHall withPeople(int people) {
        RolloutHall x = new RolloutHall();
        for (int count = 2; count <= people; count++) {
            Check.due("person()", x.person(), count);
        }
        for (int service = 0; service < 5; service++) {
            x.service();
        }
        return x;
    }

    private static void people() {
        RolloutHall x = withPeople(5);
        Check.notNow("person() with 5", () -> x.person());
        Check.due("the last one", x.standIn(0, 4), 0);
        Check.noSuch("no person 5", () -> x.standIn(0, 5));
    }

    private static void turns() {
        RolloutHall y = withPeople(3);
        y.pass(479);
        Check.due("479", y.incident(y.alert(0, 0), 3), 0);
        y.pass(1);
        Check.due("480", y.incident(y.alert(1, 0), 3), 1);
        y.pass(480);
        Check.due("960", y.incident(y.alert(2, 0), 3), 2);
        y.pass(480);
        Check.due("1440", y.incident(y.alert(3, 0), 3), 0);
        y.person();
        Check.due("1440 with 4", y.incident(y.alert(4, 0), 3), 3);
    }

    private static void standIns() {
        RolloutHall x = withPeople(2);
        Check.noSuch("no person", () -> x.standIn(21, 2));
        Check.noSuch("no person -1", () -> x.standIn(0, -1));
        Check.outOfRange("turn 21", () -> x.standIn(21, 0));
        Check.outOfRange("turn -1", () -> x.standIn(-1, 0));
        Check.due("turn 20", x.standIn(20, 1), 0);
        Check.due("turn 19", x.standIn(19, 0), 1);
        x.person();
        Check.due("turn 20 again", x.standIn(20, 0), 1);
        Check.due("turn 19 again", x.standIn(19, 0), 0);
        Check.due("turn 18 of three", x.standIn(18, 2), 0);
        Check.due("turn 17 of three", x.standIn(17, 2), 2);
        Check.due("turn 0", x.standIn(0, 2), 0);
        Check.due("stands in", x.incident(x.alert(0, 0), 3), 2);
        Check.due("turn 0 again", x.standIn(0, 1), 2);
        Check.due("the incident stays", x.incident(0, 3), 2);
        Check.due("another stands in", x.incident(x.alert(1, 0), 3), 1);
        x.pass(600);
        Check.due("turn 1 has none", x.incident(x.alert(2, 0), 3), 1);
        for (int i = 0; i < 15; i++) {
            x.pass(600);
        }
        x.pass(399);
        Check.due("turn 20 at 9999", x.incident(x.alert(3, 0), 3), 0);
    }

    private static void alerts() {
        RolloutHall x = withPeople(1);
        Check.noSuch("no service", () -> x.alert(5, 4));
        Check.noSuch("no service -1", () -> x.alert(-1, 0));
        Check.outOfRange("severity 4", () -> x.alert(0, 4));
        Check.outOfRange("severity -1", () -> x.alert(0, -1));
        Check.due("first", x.alert(0, 2), 0);
        Check.due("another service", x.alert(1, 3), 1);
        Check.due("one more", x.alert(0, 1), 0);
        Check.due("the greater severity", x.incident(0, 1), 2);
        x.alert(0, 3);
        Check.due("greater now", x.incident(0, 1), 3);
        Check.due("alerts", x.incident(0, 2), 3);
        x.take(0, 0);
        Check.due("taken, still open", x.alert(0, 0), 0);
        x.close(0);
        Check.due("a new one", x.alert(0, 0), 2);
        Check.due("its severity", x.incident(2, 1), 0);
        Check.due("its alerts", x.incident(2, 2), 1);
        Check.due("the other's alerts", x.incident(0, 2), 4);
    }

    private static void mostIncidents() {
        RolloutHall x = withPeople(1);
        for (int incident = 0; incident < 11; incident++) {
            Check.due("alert()", x.alert(0, 0), incident);
            x.take(incident, 0);
            x.close(incident);
        }
        Check.due("the twelfth", x.alert(1, 0), 11);
        Check.notNow("there were 12", () -> x.alert(0, 0));
        Check.outOfRange("range goes ahead", () -> x.alert(0, 4));
        Check.due("one that is open", x.alert(1, 1), 11);
        Check.noSuch("no incident 12", () -> x.incident(12, 0));
        x.build(0, 0);
        x.begin(0);
        Check.due("none of 12 is grave for it", x.step(0), 0);
        Check.due("time goes on", x.pass(10), 10);
        Check.due("the last one is paged", x.take(11, 0), 1);
    }

    private static void pages() {
        RolloutHall x = withPeople(3);
        x.pass(485);
        x.alert(0, 0);
        int[] want = {1, 2, 0, 1, 2, 0, 1};
        for (int tens = 0; tens < want.length; tens++) {
            Check.due("at once", x.incident(0, 3), want[tens]);
            x.pass(9);
            Check.due("after 9", x.incident(0, 3), want[tens]);
            x.pass(1);
        }
        x.alert(0, 3);
        Check.due("an alert more pages nobody", x.incident(0, 3), 2);
        x.pass(40);
        Check.due("four at once", x.incident(0, 3), 0);
        x.take(0, 1);
        x.pass(600);
        Check.due("nobody else", x.incident(0, 3), 0);
    }

    private static void pagesOfOne() {
        RolloutHall x = withPeople(1);
        x.alert(0, 0);
        x.pass(600);
        Check.due("again and again", x.incident(0, 3), 0);
        Check.due("one person", x.take(0, 0), 1);
    }

    private static void newPeople() {
        RolloutHall x = withPeople(2);
        x.alert(0, 0);
        x.pass(10);
        Check.due("the second", x.incident(0, 3), 1);
        x.person();
        x.pass(10);
        Check.due("the new one", x.incident(0, 3), 2);
        x.pass(10);
        Check.due("round", x.incident(0, 3), 0);
        Check.due("three", x.take(0, 2), 3);
    }

    private static void takes() {
        RolloutHall x = withPeople(3);
        Check.noSuch("no incident", () -> x.take(0, 0));
        x.alert(0, 0);
        Check.noSuch("no incident -1", () -> x.take(-1, 0));
        Check.noSuch("no person", () -> x.take(0, 3));
        Check.noSuch("no person -1", () -> x.take(0, -1));
        Check.notNow("was not paged", () -> x.take(0, 1));
        x.pass(10);
        Check.notNow("was not paged", () -> x.take(0, 2));
        Check.due("was paged ahead", x.take(0, 0), 2);
        Check.due("who", x.incident(0, 4), 0);
        Check.notNow("it is taken", () -> x.take(0, 1));
        x.close(0);
        Check.notNow("it is closed", () -> x.take(0, 0));
    }

    private static void closes() {
        RolloutHall x = withPeople(1);
        Check.noSuch("no incident", () -> x.close(0));
        x.alert(0, 0);
        x.alert(0, 0);
        Check.noSuch("no incident -1", () -> x.close(-1));
        Check.notNow("not taken", () -> x.close(0));
        Check.due("not closed", x.incident(0, 5), 0);
        x.take(0, 0);
        Check.due("alerts", x.close(0), 2);
        Check.due("closed", x.incident(0, 5), 1);
        Check.notNow("is closed", () -> x.close(0));
    }

    private static void asks() {
        RolloutHall x = withPeople(2);
        Check.noSuch("no incident", () -> x.incident(0, 6));
        x.standIn(0, 1);
        x.alert(4, 2);
        Check.outOfRange("what 6", () -> x.incident(0, 6));
        Check.outOfRange("what -1", () -> x.incident(0, -1));
        Check.noSuch("no incident 1", () -> x.incident(1, 0));
        Check.noSuch("no incident -1", () -> x.incident(-1, 0));
        int[] want = {4, 2, 1, 1, -1, 0};
        for (int what = 0; what < 6; what++) {
            Check.due("what " + what, x.incident(0, what), want[what]);
        }
    }

    private static void passes() {
        RolloutHall x = withPeople(1);
        Check.outOfRange("0", () -> x.pass(0));
        Check.outOfRange("-1", () -> x.pass(-1));
        Check.outOfRange("601", () -> x.pass(601));
        Check.outOfRange("far out", () -> x.pass(Integer.MAX_VALUE));
        for (int i = 1; i <= 16; i++) {
            Check.due("pass", x.pass(600), 600 * i);
        }
        Check.notNow("10000", () -> x.pass(400));
        Check.outOfRange("range goes ahead", () -> x.pass(601));
        Check.due("9999", x.pass(399), 9999);
        Check.notNow("the end", () -> x.pass(1));
    }
}
