import java.util.Random;
import java.util.TreeMap;

/** Long runs of chance calls, the same ones each time, on the class and on the model. */
final class ModelTest {
    /** What an object answers after so many calls is free. */
    private static final int CALLS = 512;
    private static final int[] WILD = {-2, -1, 0, 1, 4, 5, 9, 10, 11, 12, 24, 99, 100, 101, 999, 1000, 1001,
        9999, 10000, Integer.MAX_VALUE, Integer.MIN_VALUE};

    private final Random random;
    private final RolloutHall x = new RolloutHall();
    private final Model m = new Model();
    private final String run;
    private int calls;
    private static final TreeMap<String, Integer> ANSWERS = new TreeMap<>();

    private ModelTest(int seed) {
        random = new Random(seed);
        run = "run " + seed + " call ";
    }

    public static void main(String[] args) {
        int runs = args.length > 0 ? Integer.parseInt(args[0]) : 1500;
        for (int seed = 0; seed < runs; seed++) {
            new ModelTest(seed).compare(seed % 3);
        }
        allRefusalsWereMet();
        if (args.length > 1) {
            System.out.println(ANSWERS);
        }
        Check.end();
    }

    /** The runs tell little if they never come to the rarer answers. */
    private static void allRefusalsWereMet() {
        for (int reason = 0; reason <= 8; reason++) {
            Check.due("step() answered " + reason, ANSWERS.containsKey("step " + reason), true);
        }
        for (int rings = 0; rings <= 3; rings++) {
            Check.due("back() answered " + rings, ANSWERS.containsKey("back " + rings), true);
        }
        for (int changes = -1; changes <= 5; changes++) {
            Check.due("plan() answered " + changes, ANSWERS.containsKey("plan " + changes), true);
        }
    }

    private void compare(int kind) {
        prepare(kind);
        for (int call = 0; call < CALLS; call++) {
            if (random.nextInt(100) < 3) {
                wildCall(call);
            } else if (kind < 2) {
                rolloutCall(call);
            } else {
                otherCall(call);
            }
        }
    }

    private void prepare(int kind) {
        int services = kind == 2 ? 2 : 2 + random.nextInt(4);
        for (int service = 0; service < services; service++) {
            both("service", () -> x.service(), () -> m.service());
        }
        int needs = random.nextInt(2 * services);
        for (int i = 0; i < needs; i++) {
            int one = random.nextInt(services);
            int other = random.nextInt(services);
            int from = random.nextInt(10) < 8 ? Math.max(one, other) : one;
            int to = from == one ? other : one;
            both("needs", () -> x.needs(from, to), () -> m.needs(from, to));
        }
        int builds = services + random.nextInt(kind == 1 ? 5 * services : 2 * services);
        for (int i = 0; i < builds; i++) {
            int service = i % services;
            int level = random.nextInt(4);
            both("build", () -> x.build(service, level), () -> m.build(service, level));
            if (random.nextInt(3) > 0) {
                int other = random.nextInt(services);
                int lowest = random.nextInt(3);
                int highest = lowest + random.nextInt(4);
                int build = Math.min(i, 23);
                accepts("prepare", build, other, lowest, highest);
            }
        }
    }

    private void accepts(String call, int build, int other, int lowest, int highest) {
        both(call + " accepts", () -> {
            x.accepts(build, other, lowest, highest);
            return 0;
        }, () -> m.accepts(build, other, lowest, highest));
    }

    private void uses(String call, int build, int column) {
        both(call + " uses", () -> {
            x.uses(build, column);
            return 0;
        }, () -> m.uses(build, column));
    }

    private void both(String what, Check.Call ours, Check.Call theirs) {
        if (calls == CALLS) {
            return;
        }
        calls++;
        Object want = Check.outcome(theirs);
        Check.due(run + what, Check.outcome(ours), want);
        String[] words = what.split(" ");
        ANSWERS.merge(words[words.length - 1] + " " + want, 1, Integer::sum);
    }

    private int any(int count) {
        return random.nextInt(Math.max(1, count));
    }

    private int service() {
        return any(m.services.size());
    }

    /** More often one that has a roll-out. */
    private int rollingService() {
        int service = service();
        return m.rollouts.containsKey(service) ? service : service();
    }

    private int buildNumber() {
        return any(m.builds.size());
    }

    private void rolloutCall(int n) {
        String call = n + "";
        int service = rollingService();
        int build = buildNumber();
        int ring = any(4);
        switch (any(20)) {
            case 0, 1:
                both(call + " begin", () -> x.begin(build), () -> m.begin(build));
                break;
            case 2, 3, 4, 5, 6, 7:
                both(call + " step", () -> x.step(service), () -> m.step(service));
                break;
            case 8, 9, 10, 11:
                tellRequests(call, service);
                break;
            case 12:
                if (any(4) == 0) {
                    both(call + " back", () -> x.back(service), () -> m.back(service));
                }
                break;
            case 13, 14:
                int minutes = any(4) > 0 ? 30 : 1 + any(45);
                both(call + " pass", () -> x.pass(minutes), () -> m.pass(minutes));
                break;
            case 15:
                both(call + " plan", () -> x.plan(ring, build), () -> m.plan(ring, build));
                int change = any(5);
                both(call + " planned", () -> x.planned(change), () -> m.planned(change));
                break;
            case 16:
                disturb(call, service, build);
                break;
            case 17:
                both(call + " rolling", () -> x.rolling(service), () -> m.rolling(service));
                both(call + " isSound", () -> x.isSound(ring), () -> m.isSound(ring));
                break;
            default:
                int what = any(3);
                both(call + " in", () -> x.in(ring, service, what), () -> m.in(ring, service, what));
                break;
        }
    }

    private void tellRequests(String call, int service) {
        Model.Rollout rollout = m.rollouts.get(service);
        int ring = rollout != null && any(10) > 0 ? rollout.ranFrom.size() : any(4);
        boolean isCanary = any(10) == 0 ? any(2) == 0 : m.places[ring][service].runs == null || any(3) > 0;
        int good = any(4) == 0 ? any(25) : any(1001);
        int bad = any(3) > 0 ? good / 25 : any(2) == 0 ? any(10) : any(200);
        both(call + " requests", () -> x.requests(service, ring, isCanary, good, bad),
                () -> m.requests(service, ring, isCanary, good, bad));
        both(call + " used", () -> x.used(service), () -> m.used(service));
    }

    private void disturb(String call, int service, int build) {
        int column = any(5);
        switch (any(11)) {
            case 0:
                both(call + " condemn", () -> x.condemn(build), () -> m.condemn(build));
                break;
            case 1:
                if (any(3) == 0) {
                    uses(call, build, column);
                }
                break;
            case 2, 3, 4:
                int what = any(12) == 0 ? -1 : 60 + any(40);
                both(call + " column", () -> x.column(column, what), () -> m.column(column, what));
                break;
            case 5:
                int of = any(2) == 0 ? -1 : service;
                int from = Math.min(9998, m.minute + any(60));
                int to = Math.min(9999, from + 1 + any(60));
                both(call + " freeze", () -> x.freeze(of, from, to), () -> m.freeze(of, from, to));
                break;
            case 6:
                both(call + " except", () -> x.except(service), () -> m.except(service));
                break;
            case 7:
                int share = 1 + any(any(2) == 0 ? 1000 : 100);
                both(call + " budget", () -> x.budget(service, share), () -> m.budget(service, share));
                break;
            case 8:
                int lowest = any(3);
                accepts(call, build, service, lowest, lowest + any(4));
                break;
            default:
                incidentCall(call, service);
                break;
        }
    }

    private void incidentCall(String call, int service) {
        int incident = any(m.incidents.size());
        int person = any(m.people);
        switch (any(5)) {
            case 0:
                int severity = any(4);
                both(call + " alert", () -> x.alert(service, severity), () -> m.alert(service, severity));
                break;
            case 1, 2:
                both(call + " take", () -> x.take(incident, person), () -> m.take(incident, person));
                break;
            case 3:
                both(call + " close", () -> x.close(incident), () -> m.close(incident));
                break;
            default:
                int what = any(6);
                both(call + " incident", () -> x.incident(incident, what), () -> m.incident(incident, what));
                break;
        }
    }

    private void otherCall(int n) {
        String call = n + "";
        int flag = any(m.flags.size());
        int user = any(3) == 0 ? any(1000) : any(34);
        int from = any(100);
        int to = Math.min(100, from + any(40));
        switch (any(14)) {
            case 0:
                int layer = any(4);
                int needs = any(3) > 0 || m.flags.isEmpty() ? -1 : flag;
                both(call + " flag", () -> x.flag(layer, from, to, needs), () -> m.flag(layer, from, to, needs));
                break;
            case 1:
                both(call + " resize", () -> x.resize(flag, from, to), () -> m.resize(flag, from, to));
                break;
            case 2:
                both(call + " kill", () -> x.kill(flag), () -> m.kill(flag));
                break;
            case 3, 4:
                both(call + " see", () -> x.see(user), () -> m.see(user));
                break;
            case 5, 6, 7, 8:
                both(call + " isOn", () -> x.isOn(flag, user), () -> m.isOn(flag, user));
                break;
            case 9:
                if (any(20) == 0) {
                    both(call + " person", () -> x.person(), () -> m.person());
                }
                break;
            case 10:
                int turn = any(21);
                int person = any(m.people);
                both(call + " standIn", () -> x.standIn(turn, person), () -> m.standIn(turn, person));
                break;
            case 11:
                int minutes = 1 + any(any(4) == 0 ? 600 : 25);
                both(call + " pass", () -> x.pass(minutes), () -> m.pass(minutes));
                break;
            default:
                incidentCall(call, service());
                break;
        }
    }

    private int wild() {
        return any(2) == 0 ? WILD[any(WILD.length)] : any(6);
    }

    /** Any call with any arguments, most of them wrong. */
    private void wildCall(int n) {
        String call = n + " wild";
        int a = wild();
        int b = wild();
        int c = wild();
        int d = wild();
        boolean e = any(2) == 0;
        switch (any(33)) {
            case 0:
                both(call + " service", () -> x.service(), () -> m.service());
                break;
            case 1:
                both(call + " needs", () -> x.needs(a, b), () -> m.needs(a, b));
                break;
            case 2:
                both(call + " build", () -> x.build(a, b), () -> m.build(a, b));
                break;
            case 3:
                accepts(call, a, b, c, d);
                break;
            case 4:
                uses(call, a, b);
                break;
            case 5:
                both(call + " condemn", () -> x.condemn(a), () -> m.condemn(a));
                break;
            case 6:
                both(call + " column", () -> x.column(a, b), () -> m.column(a, b));
                break;
            case 7:
                both(call + " begin", () -> x.begin(a), () -> m.begin(a));
                break;
            case 8:
                both(call + " step", () -> x.step(a), () -> m.step(a));
                break;
            case 9:
                both(call + " back", () -> x.back(a), () -> m.back(a));
                break;
            case 10:
                both(call + " requests", () -> x.requests(a, b, e, c, d), () -> m.requests(a, b, e, c, d));
                break;
            case 11:
                both(call + " freeze", () -> x.freeze(a, b, c), () -> m.freeze(a, b, c));
                break;
            case 12:
                both(call + " except", () -> x.except(a), () -> m.except(a));
                break;
            case 13:
                both(call + " budget", () -> x.budget(a, b), () -> m.budget(a, b));
                break;
            case 14:
                both(call + " used", () -> x.used(a), () -> m.used(a));
                break;
            case 15:
                both(call + " in", () -> x.in(a, b, c), () -> m.in(a, b, c));
                break;
            default:
                otherWildCall(call, a, b, c, d);
                break;
        }
    }

    private void otherWildCall(String call, int a, int b, int c, int d) {
        switch (any(17)) {
            case 0:
                both(call + " flag", () -> x.flag(a, b, c, d), () -> m.flag(a, b, c, d));
                break;
            case 1:
                both(call + " resize", () -> x.resize(a, b, c), () -> m.resize(a, b, c));
                break;
            case 2:
                both(call + " kill", () -> x.kill(a), () -> m.kill(a));
                break;
            case 3:
                both(call + " isOn", () -> x.isOn(a, b), () -> m.isOn(a, b));
                break;
            case 4:
                both(call + " see", () -> x.see(a), () -> m.see(a));
                break;
            case 5:
                both(call + " person", () -> x.person(), () -> m.person());
                break;
            case 6:
                both(call + " standIn", () -> x.standIn(a, b), () -> m.standIn(a, b));
                break;
            case 7:
                both(call + " alert", () -> x.alert(a, b), () -> m.alert(a, b));
                break;
            case 8:
                both(call + " take", () -> x.take(a, b), () -> m.take(a, b));
                break;
            case 9:
                both(call + " close", () -> x.close(a), () -> m.close(a));
                break;
            case 10:
                both(call + " incident", () -> x.incident(a, b), () -> m.incident(a, b));
                break;
            case 11:
                both(call + " pass", () -> x.pass(a), () -> m.pass(a));
                break;
            case 12:
                both(call + " isSound", () -> x.isSound(a), () -> m.isSound(a));
                break;
            case 13:
                both(call + " rolling", () -> x.rolling(a), () -> m.rolling(a));
                break;
            case 14:
                both(call + " plan", () -> x.plan(a, b), () -> m.plan(a, b));
                break;
            default:
                both(call + " planned", () -> x.planned(a), () -> m.planned(a));
                break;
        }
    }
}
