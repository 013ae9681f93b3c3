import java.util.ArrayList;
import java.util.Arrays;
import java.util.Comparator;
import java.util.HashMap;
import java.util.HashSet;
import java.util.List;
import java.util.Map;
import java.util.Set;
import java.util.TreeMap;
import java.util.TreeSet;

/** The document once more, in the plainest way and with the library, to compare the class with. */
final class Model {
    static final class Build {
        int number;
        int service;
        int level;
        boolean condemned;
        Map<Integer, int[]> accepted = new HashMap<>();
        Set<Integer> columns = new TreeSet<>();
    }

    static final class Place {
        Build runs;
        Build canary;
        Build former;
        int runsGood;
        int runsBad;
        int canaryGood;
        int canaryBad;
    }

    static final class Rollout {
        Build build;
        List<Integer> ranFrom = new ArrayList<>();
        boolean halted;
    }

    static final class Told {
        int minute;
        int service;
        int good;
        int bad;
    }

    static final class Flag {
        int layer;
        Set<Integer> buckets = new TreeSet<>();
        Flag needs;
        boolean killed;
        Set<Integer> keptFor = new HashSet<>();
    }

    static final class Incident {
        int service;
        int severity;
        int alerts = 1;
        int openedAt;
        List<Integer> paged = new ArrayList<>();
        int taker = -1;
        boolean closed;
    }

    final List<Set<Integer>> services = new ArrayList<>();
    final List<Build> builds = new ArrayList<>();
    final String[] columnState = {"absent", "absent", "absent", "absent", "absent"};
    final int[] columnFill = new int[5];
    final Place[][] places = new Place[4][5];
    final Map<Integer, Rollout> rollouts = new HashMap<>();
    final List<int[]> freezes = new ArrayList<>();
    final int[] exceptions = new int[5];
    final int[] shares = {1000, 1000, 1000, 1000, 1000};
    final List<Told> told = new ArrayList<>();
    final List<Flag> flags = new ArrayList<>();
    final Set<Integer> seen = new HashSet<>();
    int people = 1;
    final Map<Integer, Integer> standIns = new TreeMap<>();
    final List<Incident> incidents = new ArrayList<>();
    List<Integer> lastPlan = null;
    int minute = 0;

    Model() {
        for (Place[] row : places) {
            for (int service = 0; service < 5; service++) {
                row[service] = new Place();
            }
        }
    }

    static void exists(int number, int count) {
        if (number < 0 || number >= count) {
            throw new IndexOutOfBoundsException();
        }
    }

    static void fits(boolean fits) {
        if (!fits) {
            throw new IllegalArgumentException();
        }
    }

    static void possible(boolean possible) {
        if (!possible) {
            throw new IllegalStateException();
        }
    }

    static int number(Build build) {
        return build == null ? -1 : build.number;
    }

    int service() {
        possible(services.size() < 5);
        services.add(new TreeSet<>());
        return services.size() - 1;
    }

    int needs(int service, int other) {
        exists(service, services.size());
        exists(other, services.size());
        fits(service != other);
        possible(!services.get(service).contains(other));
        for (Build build : builds) {
            possible(build.service != service && build.service != other);
        }
        services.get(service).add(other);
        return services.get(service).size();
    }

    int build(int service, int level) {
        exists(service, services.size());
        fits(level >= 0 && level <= 9);
        possible(builds.size() < 24);
        Build build = new Build();
        build.number = builds.size();
        build.service = service;
        build.level = level;
        for (int other : services.get(service)) {
            build.accepted.put(other, new int[] {0, 9});
        }
        builds.add(build);
        return build.number;
    }

    boolean runsOrIsCanary(Build build) {
        for (Place[] ring : places) {
            for (Place place : ring) {
                if (place.runs == build || place.canary == build) {
                    return true;
                }
            }
        }
        return false;
    }

    int accepts(int build, int other, int lowest, int highest) {
        exists(build, builds.size());
        exists(other, services.size());
        fits(lowest >= 0 && lowest <= 9 && highest >= lowest && highest <= 9);
        Build one = builds.get(build);
        possible(services.get(one.service).contains(other) && !runsOrIsCanary(one));
        one.accepted.put(other, new int[] {lowest, highest});
        return 0;
    }

    int uses(int build, int column) {
        exists(build, builds.size());
        exists(column, 5);
        Build one = builds.get(build);
        possible(!one.columns.contains(column) && !runsOrIsCanary(one));
        one.columns.add(column);
        return 0;
    }

    boolean condemn(int build) {
        exists(build, builds.size());
        builds.get(build).condemned ^= true;
        return builds.get(build).condemned;
    }

    int column(int column, int what) {
        exists(column, 5);
        fits(what == -1 || what >= 1 && what <= 100);
        String state = columnState[column];
        possible(!state.equals("gone"));
        if (what == -1) {
            possible(state.equals("whole"));
            for (Build build : builds) {
                possible(!build.columns.contains(column) || !runsOrIsCanary(build));
            }
            columnState[column] = "gone";
            return -1;
        }
        possible(!state.equals("whole"));
        if (state.equals("absent")) {
            columnState[column] = "added";
            return 0;
        }
        columnFill[column] += what;
        if (columnFill[column] >= 100) {
            columnFill[column] = 100;
            columnState[column] = "whole";
        }
        return columnFill[column];
    }

    boolean canRun(Build build) {
        for (int column : build.columns) {
            if (!columnState[column].equals("whole")) {
                return false;
            }
        }
        return !build.condemned;
    }

    int begin(int build) {
        exists(build, builds.size());
        Build one = builds.get(build);
        possible(!rollouts.containsKey(one.service) && !one.condemned);
        for (Place[] ring : places) {
            possible(ring[one.service].runs != one);
        }
        Rollout rollout = new Rollout();
        rollout.build = one;
        rollouts.put(one.service, rollout);
        return one.service;
    }

    boolean sound(Map<Integer, List<Build>> present, Map<Integer, Build> running) {
        for (List<Build> ofService : present.values()) {
            for (Build build : ofService) {
                for (int other : services.get(build.service)) {
                    if (!running.containsKey(other)) {
                        return false;
                    }
                    for (Build with : present.getOrDefault(other, List.of())) {
                        int[] range = build.accepted.get(other);
                        if (with.level < range[0] || with.level > range[1]) {
                            return false;
                        }
                    }
                }
            }
        }
        return true;
    }

    boolean soundRing(int ring) {
        Map<Integer, List<Build>> present = new HashMap<>();
        Map<Integer, Build> running = new HashMap<>();
        for (int service = 0; service < 5; service++) {
            Place place = places[ring][service];
            List<Build> here = new ArrayList<>();
            if (place.runs != null) {
                here.add(place.runs);
                running.put(service, place.runs);
            }
            if (place.canary != null) {
                here.add(place.canary);
            }
            present.put(service, here);
        }
        return sound(present, running);
    }

    boolean frozen(int service) {
        for (int[] freeze : freezes) {
            if ((freeze[0] == -1 || freeze[0] == service) && freeze[1] <= minute && minute < freeze[2]) {
                return true;
            }
        }
        return false;
    }

    boolean grave(int service) {
        for (Incident incident : incidents) {
            if (!incident.closed && incident.severity >= 2
                    && (incident.service == service || services.get(service).contains(incident.service))) {
                return true;
            }
        }
        return false;
    }

    long[] window(int service) {
        long all = 0;
        long bad = 0;
        for (Told one : told) {
            if (one.service == service && one.minute / 60 == minute / 60) {
                all += one.good + one.bad;
                bad += one.bad;
            }
        }
        return new long[] {all, bad};
    }

    int step(int service) {
        exists(service, services.size());
        Rollout rollout = rollouts.get(service);
        possible(rollout != null && !rollout.halted);
        int ring = rollout.ranFrom.size();
        int refusal = refusal(service, rollout, places[ring][service], ring);
        if (refusal != 0) {
            return refusal;
        }
        if (frozen(service)) {
            exceptions[service]--;
        }
        Place place = places[ring][service];
        if (place.canary == null) {
            place.canary = rollout.build;
            place.runsGood = place.runsBad = place.canaryGood = place.canaryBad = 0;
        } else {
            place.former = place.runs;
            place.runs = rollout.build;
            place.canary = null;
            rollout.ranFrom.add(minute);
            if (ring == 3) {
                rollouts.remove(service);
            }
        }
        return 0;
    }

    private int refusal(int service, Rollout rollout, Place place, int ring) {
        if (frozen(service) && exceptions[service] == 0) {
            return 1;
        }
        if (grave(service)) {
            return 2;
        }
        long[] window = window(service);
        if (window[0] > 0 && window[1] * 1000 > window[0] * shares[service]) {
            return 3;
        }
        if (!canRun(rollout.build)) {
            return 4;
        }
        Build ran = place.runs;
        Build canary = place.canary;
        if (canary == null) {
            place.canary = rollout.build;
        } else {
            place.runs = rollout.build;
            place.canary = null;
        }
        boolean sound = soundRing(ring);
        place.runs = ran;
        place.canary = canary;
        if (!sound) {
            return 5;
        }
        if (canary == null) {
            return ring > 0 && minute - rollout.ranFrom.get(ring - 1) < 30 ? 6 : 0;
        }
        return gate(place);
    }

    private int gate(Place place) {
        int canaries = place.canaryGood + place.canaryBad;
        int others = place.runsGood + place.runsBad;
        if (canaries < 20 || place.runs != null && others < 20) {
            return 7;
        }
        java.math.BigInteger left = java.math.BigInteger.valueOf(100L * place.canaryBad);
        java.math.BigInteger right = java.math.BigInteger.valueOf(5L * canaries);
        if (place.runs != null) {
            left = left.multiply(java.math.BigInteger.valueOf(others));
            right = right.multiply(java.math.BigInteger.valueOf(others))
                    .add(java.math.BigInteger.valueOf(100L * place.runsBad * canaries));
        }
        return left.compareTo(right) > 0 ? 8 : 0;
    }

    int back(int service) {
        exists(service, services.size());
        Rollout rollout = rollouts.get(service);
        possible(rollout != null);
        for (Place[] ring : places) {
            ring[service].canary = null;
        }
        while (!rollout.ranFrom.isEmpty()) {
            int ring = rollout.ranFrom.size() - 1;
            Place place = places[ring][service];
            Build former = place.former;
            boolean comes = former == null || canRun(former);
            place.runs = former;
            comes = comes && soundRing(ring);
            if (!comes) {
                place.runs = rollout.build;
                rollout.halted = true;
                return ring + 1;
            }
            place.former = null;
            rollout.ranFrom.remove(ring);
        }
        rollouts.remove(service);
        return 0;
    }

    int requests(int service, int ring, boolean isCanary, int good, int bad) {
        exists(service, services.size());
        exists(ring, 4);
        fits(good >= 0 && good <= 1000 && bad >= 0 && bad <= 1000);
        Place place = places[ring][service];
        possible((isCanary ? place.canary : place.runs) != null);
        Told one = new Told();
        one.minute = minute;
        one.service = service;
        one.good = good;
        one.bad = bad;
        told.add(one);
        if (isCanary) {
            place.canaryGood += good;
            place.canaryBad += bad;
            return place.canaryGood + place.canaryBad;
        }
        place.runsGood += good;
        place.runsBad += bad;
        return place.runsGood + place.runsBad;
    }

    int freeze(int service, int from, int to) {
        if (service != -1) {
            exists(service, services.size());
        }
        fits(from >= 0 && from <= 9999 && to > from && to <= 9999);
        possible(freezes.size() < 8);
        freezes.add(new int[] {service, from, to});
        return freezes.size();
    }

    int except(int service) {
        exists(service, services.size());
        possible(exceptions[service] < 9);
        return ++exceptions[service];
    }

    int budget(int service, int share) {
        exists(service, services.size());
        fits(share >= 1 && share <= 1000);
        int was = shares[service];
        shares[service] = share;
        return was;
    }

    float used(int service) {
        exists(service, services.size());
        long[] window = window(service);
        return window[0] == 0 ? 0f : (float) (1000 * window[1]) / (float) (shares[service] * window[0]);
    }

    private boolean taken(int layer, Set<Integer> buckets, Flag butFor) {
        for (Flag flag : flags) {
            if (flag != butFor && flag.layer == layer) {
                for (int bucket : buckets) {
                    if (flag.buckets.contains(bucket)) {
                        return true;
                    }
                }
            }
        }
        return false;
    }

    private static Set<Integer> range(int from, int to) {
        Set<Integer> buckets = new TreeSet<>();
        for (int bucket = from; bucket < to; bucket++) {
            buckets.add(bucket);
        }
        return buckets;
    }

    int flag(int layer, int from, int to, int needs) {
        if (needs != -1) {
            exists(needs, flags.size());
        }
        fits(layer >= 0 && layer <= 3 && from >= 0 && from <= 100 && to >= from && to <= 100);
        possible(flags.size() < 12 && !taken(layer, range(from, to), null));
        Flag flag = new Flag();
        flag.layer = layer;
        flag.buckets = range(from, to);
        flag.needs = needs == -1 ? null : flags.get(needs);
        flags.add(flag);
        return flags.size() - 1;
    }

    int resize(int flag, int from, int to) {
        exists(flag, flags.size());
        fits(from >= 0 && from <= 100 && to >= from && to <= 100);
        Flag one = flags.get(flag);
        possible(!taken(one.layer, range(from, to), one));
        int had = one.buckets.size();
        one.buckets = range(from, to);
        return had;
    }

    boolean kill(int flag) {
        exists(flag, flags.size());
        flags.get(flag).killed ^= true;
        return flags.get(flag).killed;
    }

    private boolean on(Flag flag, int user) {
        long x = user * 73L + flag.layer * 31L + 7L;
        int bucket = (int) ((x * x % 9973L) % 100L);
        return !flag.killed && (flag.buckets.contains(bucket) || flag.keptFor.contains(user))
                && (flag.needs == null || on(flag.needs, user));
    }

    boolean isOn(int flag, int user) {
        exists(flag, flags.size());
        fits(user >= 0 && user <= 999);
        return on(flags.get(flag), user);
    }

    int see(int user) {
        fits(user >= 0 && user <= 999);
        possible(seen.contains(user) || seen.size() < 30);
        seen.add(user);
        int count = 0;
        for (Flag flag : flags) {
            if (on(flag, user)) {
                flag.keptFor.add(user);
                count++;
            }
        }
        return count;
    }

    int person() {
        possible(people < 5);
        return ++people;
    }

    private int onDuty(int turn) {
        return standIns.getOrDefault(turn, turn % people);
    }

    int standIn(int turn, int person) {
        exists(person, people);
        fits(turn >= 0 && turn <= 20);
        int was = onDuty(turn);
        standIns.put(turn, person);
        return was;
    }

    int alert(int service, int severity) {
        exists(service, services.size());
        fits(severity >= 0 && severity <= 3);
        for (Incident incident : incidents) {
            if (incident.service == service && !incident.closed) {
                incident.alerts++;
                incident.severity = Math.max(incident.severity, severity);
                return incidents.indexOf(incident);
            }
        }
        possible(incidents.size() < 12);
        Incident incident = new Incident();
        incident.service = service;
        incident.severity = severity;
        incident.openedAt = minute;
        incident.paged.add(onDuty(minute / 480));
        incidents.add(incident);
        return incidents.size() - 1;
    }

    int take(int incident, int person) {
        exists(incident, incidents.size());
        exists(person, people);
        Incident one = incidents.get(incident);
        possible(one.taker == -1 && !one.closed && one.paged.contains(person));
        one.taker = person;
        return new HashSet<>(one.paged).size();
    }

    int close(int incident) {
        exists(incident, incidents.size());
        Incident one = incidents.get(incident);
        possible(one.taker != -1 && !one.closed);
        one.closed = true;
        return one.alerts;
    }

    int incident(int incident, int what) {
        exists(incident, incidents.size());
        fits(what >= 0 && what <= 5);
        Incident one = incidents.get(incident);
        int[] answers = {one.service, one.severity, one.alerts, one.paged.get(one.paged.size() - 1),
            one.taker, one.closed ? 1 : 0};
        return answers[what];
    }

    int pass(int minutes) {
        fits(minutes >= 1 && minutes <= 600);
        possible(minute + minutes <= 9999);
        for (int i = 0; i < minutes; i++) {
            minute++;
            for (Incident one : incidents) {
                if (one.taker == -1 && (minute - one.openedAt) % 10 == 0) {
                    one.paged.add((one.paged.get(one.paged.size() - 1) + 1) % people);
                }
            }
        }
        return minute;
    }

    int in(int ring, int service, int what) {
        exists(ring, 4);
        exists(service, services.size());
        fits(what >= 0 && what <= 2);
        Place place = places[ring][service];
        return number(what == 0 ? place.runs : what == 1 ? place.canary : place.former);
    }

    boolean isSound(int ring) {
        exists(ring, 4);
        return soundRing(ring);
    }

    int rolling(int service) {
        exists(service, services.size());
        Rollout rollout = rollouts.get(service);
        if (rollout == null) {
            return -1;
        }
        return 10 * rollout.build.number + (rollout.halted ? 4 : rollout.ranFrom.size());
    }

    private boolean soundRunning(List<Integer> running) {
        Map<Integer, List<Build>> present = new HashMap<>();
        Map<Integer, Build> runs = new HashMap<>();
        for (int number : running) {
            if (number != -1) {
                Build build = builds.get(number);
                present.put(build.service, List.of(build));
                runs.put(build.service, build);
            }
        }
        return sound(present, runs);
    }

    /** Level by level; of all the ways to a state of a level the least one is kept. */
    int plan(int ring, int build) {
        exists(ring, 4);
        exists(build, builds.size());
        Comparator<List<Integer>> byChanges = (a, b) -> Arrays.compare(
                a.stream().mapToInt(Integer::intValue).toArray(), b.stream().mapToInt(Integer::intValue).toArray());
        List<Integer> start = new ArrayList<>();
        for (int service = 0; service < 5; service++) {
            start.add(number(places[ring][service].runs));
        }
        Map<List<Integer>, List<Integer>> level = new HashMap<>();
        level.put(start, List.of());
        Set<List<Integer>> done = new HashSet<>();
        while (!level.isEmpty()) {
            List<Integer> best = null;
            for (Map.Entry<List<Integer>, List<Integer>> way : level.entrySet()) {
                if (way.getKey().get(builds.get(build).service) == build
                        && (best == null || byChanges.compare(way.getValue(), best) < 0)) {
                    best = way.getValue();
                }
            }
            if (best != null) {
                lastPlan = best;
                return best.size();
            }
            done.addAll(level.keySet());
            Map<List<Integer>, List<Integer>> next = new HashMap<>();
            for (Map.Entry<List<Integer>, List<Integer>> way : level.entrySet()) {
                for (Build change : builds) {
                    List<Integer> running = new ArrayList<>(way.getKey());
                    running.set(change.service, change.number);
                    if (canRun(change) && !done.contains(running) && soundRunning(running)) {
                        List<Integer> changes = new ArrayList<>(way.getValue());
                        changes.add(change.number);
                        List<Integer> other = next.get(running);
                        if (other == null || byChanges.compare(changes, other) < 0) {
                            next.put(running, changes);
                        }
                    }
                }
            }
            level = next;
        }
        lastPlan = null;
        return -1;
    }

    int planned(int change) {
        exists(change, lastPlan == null ? 0 : lastPlan.size());
        return lastPlan.get(change);
    }
}
