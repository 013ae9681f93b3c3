/** Promises 13 to 16: freezes, exceptions, budgets. */
final class FreezeBudgetTest {
    public static void main(String[] args) {
        freeze();
        except();
        budget();
        used();
        windows();
        Check.end();
    }

    private static RolloutHall withRunning() {
        RolloutHall x = new RolloutHall();
        x.service();
        x.service();
        x.build(0, 0);
        x.build(0, 0);
        x.build(1, 0);
        Halls.roll(x, 0, 4);
        x.pass(60);
        return x;
    }

    private static void freeze() {
        RolloutHall x = new RolloutHall();
        x.service();
        Check.noSuch("no service", () -> x.freeze(1, -1, 0));
        Check.noSuch("no service -2", () -> x.freeze(-2, 0, 1));
        Check.outOfRange("from -1", () -> x.freeze(0, -1, 5));
        Check.outOfRange("from 9999", () -> x.freeze(0, 9999, 10000));
        Check.outOfRange("from 10000", () -> x.freeze(0, 10000, 10001));
        Check.outOfRange("to as from", () -> x.freeze(-1, 5, 5));
        Check.outOfRange("to 10000", () -> x.freeze(0, 5, 10000));
        Check.outOfRange("from far out", () -> x.freeze(0, Integer.MAX_VALUE, Integer.MIN_VALUE));
        Check.due("all minutes", x.freeze(0, 0, 9999), 1);
        Check.due("the last one", x.freeze(-1, 9998, 9999), 2);
        for (int told = 3; told <= 8; told++) {
            Check.due("freeze", x.freeze(-1, 0, 1), told);
        }
        Check.notNow("8 were told", () -> x.freeze(0, 0, 1));
        Check.outOfRange("range goes ahead", () -> x.freeze(0, 1, 1));
        x.build(0, 0);
        x.begin(0);
        Check.due("it holds", x.step(0), 1);
        RolloutHall y = new RolloutHall();
        y.service();
        y.build(0, 0);
        y.begin(0);
        for (int told = 1; told <= 8; told++) {
            y.freeze(-1, 5, 6);
        }
        Check.due("none of 8 holds", y.step(0), 0);
    }

    private static void except() {
        RolloutHall x = new RolloutHall();
        x.service();
        x.service();
        Check.noSuch("no service", () -> x.except(2));
        Check.noSuch("no service -1", () -> x.except(-1));
        for (int count = 1; count <= 9; count++) {
            Check.due("except", x.except(0), count);
        }
        Check.notNow("it has 9", () -> x.except(0));
        Check.due("the other has none", x.except(1), 1);
        x.build(0, 0);
        x.freeze(0, 0, 9999);
        x.begin(0);
        Check.due("takes one", x.step(0), 0);
        Check.due("9 again", x.except(0), 9);
    }

    private static void budget() {
        RolloutHall x = new RolloutHall();
        x.service();
        x.service();
        Check.noSuch("no service", () -> x.budget(2, 0));
        Check.noSuch("no service -1", () -> x.budget(-1, 1));
        Check.outOfRange("share 0", () -> x.budget(0, 0));
        Check.outOfRange("share 1001", () -> x.budget(0, 1001));
        Check.due("1000 at first", x.budget(0, 1), 1000);
        Check.due("1", x.budget(0, 1000), 1);
        Check.due("1000", x.budget(0, 7), 1000);
        Check.due("of another", x.budget(1, 7), 1000);
    }

    private static void used() {
        RolloutHall x = withRunning();
        Check.noSuch("no service", () -> x.used(2));
        Check.noSuch("no service -1", () -> x.used(-1));
        Check.due("none", x.used(0), 0f);
        x.begin(1);
        x.step(0);
        x.requests(0, 1, false, 2, 1);
        Check.due("a third", x.used(0), 1000f / 3000f);
        x.budget(0, 7);
        Check.due("of 7", x.used(0), 1000f / 21f);
        x.requests(0, 0, true, 0, 4);
        x.requests(0, 3, false, 1, 0);
        Check.due("of all rings and canaries", x.used(0), 5000f / 56f);
        Check.due("another", x.used(1), 0f);
        x.requests(0, 3, false, 0, 0);
        Check.due("nothing more", x.used(0), 5000f / 56f);
        RolloutHall z = withRunning();
        z.budget(0, 1);
        z.requests(0, 1, false, 0, 1);
        Check.due("the least budget and one request", z.used(0), 1000f);
        RolloutHall y = withRunning();
        y.requests(0, 1, false, 0, 0);
        Check.due("none at all", y.used(0), 0f);
        y.budget(0, 997);
        for (int i = 0; i < 50; i++) {
            y.requests(0, 1, false, 1000, 997);
        }
        Check.due("large", y.used(0), 49850000f / (float) (997L * 50 * 1997));
    }

    private static void windows() {
        RolloutHall x = withRunning();
        Check.due("the window from 180 on", x.pass(1), 181);
        x.requests(0, 1, false, 1, 1);
        x.pass(58);
        Check.due("239", x.used(0), 0.5f);
        x.pass(1);
        Check.due("240", x.used(0), 0f);
        x.requests(0, 1, false, 3, 1);
        Check.due("240", x.used(0), 0.25f);
        x.pass(600);
        Check.due("ten windows on", x.used(0), 0f);
        RolloutHall y = withRunning();
        y.requests(0, 1, false, 1, 1);
        y.pass(60);
        Check.due("a whole window on", y.used(0), 0f);
    }
}
