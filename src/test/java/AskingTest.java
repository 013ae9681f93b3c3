/** Promises 29 to 31: what is in a ring, whether it is sound, how a roll-out is. */
final class AskingTest {
    public static void main(String[] args) {
        in();
        isSound();
        rolling();
        Check.end();
    }

    private static void in() {
        RolloutHall x = new RolloutHall();
        x.service();
        x.build(0, 0);
        Check.noSuch("no ring", () -> x.in(4, 0, 3));
        Check.noSuch("no ring -1", () -> x.in(-1, 0, 0));
        Check.noSuch("no service", () -> x.in(0, 1, 3));
        Check.noSuch("no service -1", () -> x.in(0, -1, 0));
        Check.outOfRange("what 3", () -> x.in(0, 0, 3));
        Check.outOfRange("what -1", () -> x.in(3, 0, -1));
        String none = "-1 0.0:-1 -1 -1 -1 -1 -1 -1 -1 -1 -1 -1 -1 ";
        Check.due("nothing at first", Halls.look(x, 1), none);
        x.begin(0);
        x.step(0);
        Check.due("a canary", Halls.look(x, 1), "0 0.0:-1 0 -1 -1 -1 -1 -1 -1 -1 -1 -1 -1 ");
        Halls.goOn(x, 0, 1);
        Check.due("it runs", Halls.look(x, 1), "1 0.0:0 -1 -1 -1 -1 -1 -1 -1 -1 -1 -1 -1 ");
        x.build(0, 0);
        Halls.goOn(x, 0, 3);
        Halls.roll(x, 1, 1);
        Check.due("and another", Halls.look(x, 1), "11 0.0:1 -1 0 0 -1 -1 0 -1 -1 0 -1 -1 ");
    }

    private static void isSound() {
        RolloutHall x = new RolloutHall();
        Check.noSuch("no ring", () -> x.isSound(4));
        Check.noSuch("no ring -1", () -> x.isSound(-1));
        x.service();
        x.service();
        x.needs(1, 0);
        x.build(0, 3);
        x.build(1, 0);
        x.accepts(1, 0, 3, 3);
        Halls.roll(x, 0, 1);
        Halls.roll(x, 1, 1);
        x.condemn(0);
        for (int ring = 0; ring < 4; ring++) {
            Check.due("sound", x.isSound(ring), true);
        }
    }

    private static void rolling() {
        RolloutHall x = new RolloutHall();
        x.service();
        Check.noSuch("no service", () -> x.rolling(1));
        Check.noSuch("no service -1", () -> x.rolling(-1));
        for (int build = 0; build < 24; build++) {
            x.build(0, 0);
        }
        Check.due("none", x.rolling(0), -1);
        Halls.roll(x, 23, 4);
        Check.due("over", x.rolling(0), -1);
        x.begin(22);
        Check.due("becomes a canary in 0", x.rolling(0), 220);
        Halls.goOn(x, 0, 3);
        Check.due("becomes a canary in 3", x.rolling(0), 223);
        x.step(0);
        Check.due("is a canary in 3", x.rolling(0), 223);
        x.condemn(23);
        x.back(0);
        Check.due("halted", x.rolling(0), 224);
    }
}
