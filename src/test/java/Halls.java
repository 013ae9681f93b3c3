/** Ways to bring a hall where a test wants it. */
final class Halls {
    private Halls() {
    }

    /** Begins a roll-out and lets the build run in so many rings. */
    static void roll(RolloutHall x, int build, int ringCount) {
        goOn(x, x.begin(build), ringCount);
    }

    /** Goes on until the build runs in so many rings more, telling good requests, passing minutes. */
    static void goOn(RolloutHall x, int service, int ringCount) {
        for (int i = 0; i < ringCount; i++) {
            int rolling = x.rolling(service);
            int ring = rolling % 10;
            if (x.in(ring, service, 1) == RolloutHall.NONE) {
                Check.due("canary of " + rolling, x.step(service), 0);
            }
            x.requests(service, ring, true, 20, 0);
            if (x.in(ring, service, 0) != RolloutHall.NONE) {
                x.requests(service, ring, false, 20, 0);
            }
            Check.due("running of " + rolling, x.step(service), 0);
            x.pass(30);
        }
    }

    /** Begins a roll-out and answers its first step. */
    static int tryCanary(RolloutHall x, int build) {
        return x.step(x.begin(build));
    }

    /** What the hall answers where its state can be asked. */
    static String look(RolloutHall x, int serviceCount) {
        StringBuilder seen = new StringBuilder();
        for (int service = 0; service < serviceCount; service++) {
            seen.append(x.rolling(service)).append(' ').append(x.used(service)).append(':');
            for (int ring = 0; ring < 4; ring++) {
                for (int what = 0; what < 3; what++) {
                    seen.append(x.in(ring, service, what)).append(' ');
                }
            }
        }
        return seen.toString();
    }
}
