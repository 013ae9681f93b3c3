import java.util.ArrayList;
import java.util.List;

/** Promises 17 to 21: flags in layers, kept for the users that were seen. */
final class FlagsTest {
    public static void main(String[] args) {
        wrongFlags();
        mostFlags();
        buckets();
        ranges();
        resize();
        kill();
        chain();
        kept();
        mostUsers();
        Check.end();
    }

    private static int bucket(int user, int layer) {
        long x = user * 73L + layer * 31L + 7L;
        return (int) (x * x % 9973 % 100);
    }

    private static void wrongFlags() {
        RolloutHall x = new RolloutHall();
        Check.noSuch("needs 0", () -> x.flag(4, 0, 1, 0));
        Check.noSuch("needs -2", () -> x.flag(0, 0, 1, -2));
        Check.outOfRange("layer 4", () -> x.flag(4, 0, 1, -1));
        Check.outOfRange("layer -1", () -> x.flag(-1, 0, 1, -1));
        Check.outOfRange("from -1", () -> x.flag(0, -1, 1, -1));
        Check.outOfRange("from 101", () -> x.flag(0, 101, 101, -1));
        Check.outOfRange("to below from", () -> x.flag(0, 5, 4, -1));
        Check.outOfRange("to 101", () -> x.flag(0, 5, 101, -1));
        Check.due("the first one", x.flag(0, 0, 100, -1), 0);
        Check.noSuch("itself", () -> x.flag(0, 0, 1, 1));
        Check.notNow("a bucket of another", () -> x.flag(0, 99, 100, 0));
        Check.due("the second one", x.flag(0, 100, 100, 0), 1);
        Check.noSuch("no flag", () -> x.isOn(2, 1000));
        Check.noSuch("no flag -1", () -> x.isOn(-1, 0));
        Check.outOfRange("user 1000", () -> x.isOn(0, 1000));
        Check.outOfRange("user -1", () -> x.isOn(0, -1));
        Check.due("user 999", x.isOn(0, 999), true);
    }

    private static void mostFlags() {
        RolloutHall x = new RolloutHall();
        for (int flag = 0; flag < 12; flag++) {
            Check.due("flag()", x.flag(flag % 4, flag, flag + 1, flag - 1), flag);
        }
        Check.notNow("there are 12", () -> x.flag(0, 50, 60, -1));
        Check.outOfRange("range goes ahead", () -> x.flag(0, 60, 50, -1));
        Check.noSuch("no flag 12", () -> x.kill(12));
        Check.due("the last one is off", x.isOn(11, 0), false);
        Check.due("the last one has one", x.resize(11, 11, 100), 1);
        Check.notNow("the last one has the next", () -> x.resize(7, 7, 12));
    }

    private static void buckets() {
        for (int layer = 0; layer < 4; layer++) {
            RolloutHall x = new RolloutHall();
            x.flag(layer, 30, 60, -1);
            x.flag(layer, 60, 60, -1);
            x.flag(layer, 60, 61, -1);
            x.flag(layer, 0, 30, -1);
            for (int user = 0; user < 1000; user += 9) {
                int bucket = bucket(user, layer);
                String what = "layer " + layer + " user " + user + " ";
                Check.due(what + "30 to 60", x.isOn(0, user), bucket >= 30 && bucket < 60);
                Check.due(what + "60 to 60", x.isOn(1, user), false);
                Check.due(what + "60 to 61", x.isOn(2, user), bucket == 60);
                Check.due(what + "0 to 30", x.isOn(3, user), bucket < 30);
            }
        }
    }

    private static void ranges() {
        int[][] meeting = {{20, 31}, {59, 70}, {40, 50}, {20, 70}, {30, 60}};
        int[][] free = {{0, 30}, {60, 100}, {40, 40}, {30, 30}, {60, 60}};
        for (int[] range : meeting) {
            RolloutHall x = new RolloutHall();
            x.flag(1, 30, 60, -1);
            x.kill(0);
            Check.notNow("has one of " + range[0], () -> x.flag(1, range[0], range[1], -1));
            Check.due("in another layer", x.flag(2, range[0], range[1], -1), 1);
        }
        for (int[] range : free) {
            RolloutHall x = new RolloutHall();
            x.flag(1, 30, 60, -1);
            x.flag(1, 20, 20, -1);
            Check.due("has none of " + range[0], x.flag(1, range[0], range[1], -1), 2);
        }
    }

    private static void resize() {
        RolloutHall x = new RolloutHall();
        x.flag(0, 10, 20, -1);
        x.flag(0, 20, 40, -1);
        Check.noSuch("no flag", () -> x.resize(2, 5, 4));
        Check.outOfRange("from -1", () -> x.resize(0, -1, 4));
        Check.outOfRange("to below from", () -> x.resize(0, 5, 4));
        Check.outOfRange("to 101", () -> x.resize(0, 5, 101));
        Check.notNow("one of the other", () -> x.resize(0, 0, 21));
        Check.due("over its own", x.resize(0, 15, 20), 10);
        Check.due("larger", x.resize(0, 0, 20), 5);
        Check.due("to none", x.resize(0, 30, 30), 20);
        Check.due("the other takes all", x.resize(1, 0, 100), 20);
        Check.due("none in its midst", x.resize(0, 50, 50), 0);
        Check.due("all are of the other", x.isOn(1, 1), true);
    }

    private static void kill() {
        RolloutHall x = new RolloutHall();
        x.flag(0, 0, 100, -1);
        Check.noSuch("no flag", () -> x.kill(1));
        Check.noSuch("no flag -1", () -> x.kill(-1));
        Check.due("on", x.isOn(0, 5), true);
        Check.due("kill", x.kill(0), true);
        Check.due("killed", x.isOn(0, 5), false);
        Check.notNow("its buckets stay its own", () -> x.flag(0, 0, 1, -1));
        Check.due("none on", x.see(5), 0);
        Check.due("live again", x.kill(0), false);
        Check.due("on again", x.isOn(0, 5), true);
        x.resize(0, 0, 0);
        Check.due("not kept when killed", x.isOn(0, 5), false);
    }

    private static void chain() {
        RolloutHall y = new RolloutHall();
        y.flag(0, 0, 50, -1);
        y.flag(1, 0, 50, 0);
        y.flag(2, 0, 100, 1);
        y.flag(2, 100, 100, 0);
        for (int user = 0; user < 150; user++) {
            boolean first = bucket(user, 0) < 50;
            boolean second = first && bucket(user, 1) < 50;
            Check.due("first of " + user, y.isOn(0, user), first);
            Check.due("second of " + user, y.isOn(1, user), second);
            Check.due("third of " + user, y.isOn(2, user), second);
        }
        y.kill(0);
        Check.due("the needed one is killed", y.see(1), 0);
    }

    private static void kept() {
        RolloutHall x = new RolloutHall();
        x.flag(0, 0, 100, -1);
        x.flag(1, 0, 100, 0);
        Check.outOfRange("user 1000", () -> x.see(1000));
        Check.outOfRange("user -1", () -> x.see(-1));
        Check.due("both", x.see(999), 2);
        x.resize(0, 0, 0);
        x.resize(1, 0, 0);
        Check.due("kept", x.isOn(1, 999), true);
        Check.due("not for others", x.isOn(1, 998), false);
        x.kill(0);
        Check.due("the needed one is killed", x.isOn(1, 999), false);
        Check.due("seen with none on", x.see(999), 0);
        x.kill(0);
        Check.due("what is kept stays", x.see(999), 2);
        x.flag(2, 0, 100, -1);
        Check.due("one more", x.see(999), 3);
        x.resize(2, 0, 0);
        Check.due("that is kept too", x.isOn(2, 999), true);
    }

    private static void mostUsers() {
        RolloutHall x = new RolloutHall();
        for (int user = 0; user < 30; user++) {
            Check.due("see", x.see(user), 0);
        }
        Check.notNow("30 others were seen", () -> x.see(30));
        Check.outOfRange("range goes ahead", () -> x.see(1000));
        x.flag(0, 0, 100, -1);
        Check.due("seen again", x.see(29), 1);
        Check.due("seen again", x.see(0), 1);
        x.resize(0, 0, 0);
        List<Integer> on = new ArrayList<>();
        for (int user = 0; user < 40; user++) {
            if (x.isOn(0, user)) {
                on.add(user);
            }
        }
        Check.due("kept for two", on, List.of(0, 29));
    }
}
