import java.util.Arrays;

/** The machinery of releases. The document ../shared/DOC.md tells what each call of the face does. */
public final class RolloutHall {
    public static final int NONE = -1;

    private static final int MOST_SERVICES = 5;
    private static final int MOST_BUILDS = 24;
    private static final int MOST_FREEZES = 8;
    private static final int MOST_EXCEPTIONS = 9;
    private static final int MOST_FLAGS = 12;
    private static final int MOST_USERS = 30;
    private static final int MOST_PEOPLE = 5;
    private static final int MOST_INCIDENTS = 12;

    private static final int COLUMNS = 5;
    private static final int RINGS = 4;
    private static final int LAYERS = 4;
    private static final int BUCKETS = 100;
    private static final int TURNS = 21;

    private static final int HIGHEST_LEVEL = 9;
    private static final int HIGHEST_USER = 999;
    private static final int HIGHEST_SEVERITY = 3;
    private static final int GRAVE_SEVERITY = 2;
    private static final int LAST_MINUTE = 9999;
    private static final int LONGEST_PASS = 600;
    private static final int MOST_TOLD = 1000;
    private static final int THOUSAND = 1000;

    private static final int TURN_MINUTES = 480;
    private static final int WINDOW_MINUTES = 60;
    private static final int PAGE_MINUTES = 10;
    private static final int BAKING_MINUTES = 30;
    private static final int GATE_REQUESTS = 20;
    private static final int GATE_MARGIN = 5;

    private static final int WHOLE = 100;
    private static final int TAKEN_AWAY = -1;
    private static final int ABSENT = -2;
    private static final int HALTED = 4;

    private static final int DONE = 0;
    private static final int FROZEN = 1;
    private static final int GRAVE_INCIDENT = 2;
    private static final int BUDGET_USED_UP = 3;
    private static final int NOT_READY = 4;
    private static final int NOT_SOUND = 5;
    private static final int NOT_BAKED = 6;
    private static final int DATA_MISSING = 7;
    private static final int CANARY_WORSE = 8;

    /** The most ways to choose a build, or none, for each service: 24 builds, split 5, 5, 5, 5 and 4. */
    private static final int MOST_STATES = 6 * 6 * 6 * 6 * 5;

    private final Catalogue catalogue;
    private final Ring[] rings;
    private final Rollout[] rollouts;
    private final Freezes freezes;
    private final Budgets budgets;
    private final Flags flags;
    private final Duty duty;
    private final Planner planner;
    private int minute;

    public RolloutHall() {
        catalogue = new Catalogue();
        rings = new Ring[RINGS];
        for (int ring = 0; ring < RINGS; ring++) {
            rings[ring] = new Ring(catalogue);
        }
        rollouts = new Rollout[MOST_SERVICES];
        for (int service = 0; service < MOST_SERVICES; service++) {
            rollouts[service] = new Rollout();
        }
        freezes = new Freezes();
        budgets = new Budgets();
        flags = new Flags();
        duty = new Duty();
        planner = new Planner(catalogue);
        minute = 0;
    }

    // ---- services, builds, columns

    public int service() throws IllegalStateException {
        requirePossible(catalogue.services < MOST_SERVICES);
        return catalogue.addService();
    }

    public int needs(int service, int other)
            throws IndexOutOfBoundsException, IllegalArgumentException, IllegalStateException {
        requireService(service);
        requireService(other);
        requireFitting(service != other);
        requirePossible(!catalogue.doesNeed(service, other)
                && !catalogue.hasBuilds(service) && !catalogue.hasBuilds(other));
        return catalogue.addNeed(service, other);
    }

    public int build(int service, int level)
            throws IndexOutOfBoundsException, IllegalArgumentException, IllegalStateException {
        requireService(service);
        requireFitting(isWithin(level, 0, HIGHEST_LEVEL));
        requirePossible(catalogue.builds < MOST_BUILDS);
        return catalogue.addBuild(service, level);
    }

    public void accepts(int build, int other, int lowest, int highest)
            throws IndexOutOfBoundsException, IllegalArgumentException, IllegalStateException {
        requireBuild(build);
        requireService(other);
        requireFitting(isWithin(lowest, 0, HIGHEST_LEVEL) && isWithin(highest, lowest, HIGHEST_LEVEL));
        requirePossible(catalogue.doesNeed(catalogue.serviceOf[build], other) && !isInUse(build));
        catalogue.lowest[build][other] = lowest;
        catalogue.highest[build][other] = highest;
    }

    public void uses(int build, int column) throws IndexOutOfBoundsException, IllegalStateException {
        requireBuild(build);
        requireIndex(column, COLUMNS);
        requirePossible(!catalogue.doesUse(build, column) && !isInUse(build));
        catalogue.columnsOf[build] |= 1 << column;
    }

    public boolean condemn(int build) throws IndexOutOfBoundsException {
        requireBuild(build);
        catalogue.condemned[build] = !catalogue.condemned[build];
        return catalogue.condemned[build];
    }

    public int column(int column, int what)
            throws IndexOutOfBoundsException, IllegalArgumentException, IllegalStateException {
        requireIndex(column, COLUMNS);
        requireFitting(what == TAKEN_AWAY || isWithin(what, 1, WHOLE));
        int filled = catalogue.filled[column];
        if (what == TAKEN_AWAY) {
            requirePossible(filled == WHOLE && !isColumnInUse(column));
            catalogue.filled[column] = TAKEN_AWAY;
        } else {
            requirePossible(filled != TAKEN_AWAY && filled != WHOLE);
            catalogue.filled[column] = filled == ABSENT ? 0 : Math.min(WHOLE, filled + what);
        }
        return catalogue.filled[column];
    }

    // ---- rolling out

    public int begin(int build) throws IndexOutOfBoundsException, IllegalStateException {
        requireBuild(build);
        int service = catalogue.serviceOf[build];
        requirePossible(rollouts[service].build == NONE
                && !runsSomewhere(build) && !catalogue.condemned[build]);
        rollouts[service].startWith(build);
        return service;
    }

    public int step(int service) throws IndexOutOfBoundsException, IllegalStateException {
        requireService(service);
        Rollout rollout = rollouts[service];
        requirePossible(rollout.build != NONE && !rollout.halted);
        int refusal = findRefusal(service, rollout);
        if (refusal == DONE) {
            if (freezes.doHold(service, minute)) {
                freezes.exceptions[service]--;
            }
            advance(service, rollout);
        }
        return refusal;
    }

    public int back(int service) throws IndexOutOfBoundsException, IllegalStateException {
        requireService(service);
        Rollout rollout = rollouts[service];
        requirePossible(rollout.build != NONE);
        rings[rollout.ring].canary[service] = NONE;
        rollout.halted = false;
        for (int ring = rollout.ring - 1; ring >= 0 && !rollout.halted; ring--) {
            if (canComeBack(service, rings[ring])) {
                rings[ring].comeBack(service);
                rollout.ring = ring;
            } else {
                rollout.halted = true;
            }
        }
        if (!rollout.halted) {
            rollout.build = NONE;
        }
        return rollout.ring;
    }

    public int requests(int service, int ring, boolean isCanary, int good, int bad)
            throws IndexOutOfBoundsException, IllegalArgumentException, IllegalStateException {
        requireService(service);
        requireRing(ring);
        requireFitting(isWithin(good, 0, MOST_TOLD) && isWithin(bad, 0, MOST_TOLD));
        Ring place = rings[ring];
        requirePossible((isCanary ? place.canary[service] : place.running[service]) != NONE);
        budgets.count(service, good + bad, bad);
        return isCanary ? place.countForCanary(service, good + bad, bad)
                : place.countForRunning(service, good + bad, bad);
    }

    public int freeze(int service, int from, int to)
            throws IndexOutOfBoundsException, IllegalArgumentException, IllegalStateException {
        if (service != NONE) {
            requireService(service);
        }
        requireFitting(isWithin(from, 0, LAST_MINUTE) && isWithin(to, from + 1, LAST_MINUTE));
        requirePossible(freezes.told < MOST_FREEZES);
        return freezes.add(service, from, to);
    }

    public int except(int service) throws IndexOutOfBoundsException, IllegalStateException {
        requireService(service);
        requirePossible(freezes.exceptions[service] < MOST_EXCEPTIONS);
        freezes.exceptions[service]++;
        return freezes.exceptions[service];
    }

    public int budget(int service, int share) throws IndexOutOfBoundsException, IllegalArgumentException {
        requireService(service);
        requireFitting(isWithin(share, 1, THOUSAND));
        int was = budgets.shares[service];
        budgets.shares[service] = share;
        return was;
    }

    public float used(int service) throws IndexOutOfBoundsException {
        requireService(service);
        return budgets.usedPart(service);
    }

    // ---- flags

    public int flag(int layer, int from, int to, int needs)
            throws IndexOutOfBoundsException, IllegalArgumentException, IllegalStateException {
        if (needs != NONE) {
            requireFlag(needs);
        }
        requireFitting(isWithin(layer, 0, LAYERS - 1) && isRangeOfBuckets(from, to));
        requirePossible(flags.made < MOST_FLAGS && flags.areFree(layer, from, to, NONE));
        return flags.add(layer, from, to, needs);
    }

    public int resize(int flag, int from, int to)
            throws IndexOutOfBoundsException, IllegalArgumentException, IllegalStateException {
        requireFlag(flag);
        requireFitting(isRangeOfBuckets(from, to));
        requirePossible(flags.areFree(flags.layerOf[flag], from, to, flag));
        int had = flags.to[flag] - flags.from[flag];
        flags.from[flag] = from;
        flags.to[flag] = to;
        return had;
    }

    public boolean kill(int flag) throws IndexOutOfBoundsException {
        requireFlag(flag);
        flags.killed[flag] = !flags.killed[flag];
        return flags.killed[flag];
    }

    public boolean isOn(int flag, int user) throws IndexOutOfBoundsException, IllegalArgumentException {
        requireFlag(flag);
        requireFitting(isWithin(user, 0, HIGHEST_USER));
        return hasBit(flags.findOn(user), flag);
    }

    public int see(int user) throws IllegalArgumentException, IllegalStateException {
        requireFitting(isWithin(user, 0, HIGHEST_USER));
        requirePossible(flags.seen < MOST_USERS || flags.findRow(user) != NONE);
        return flags.keepFor(user);
    }

    // ---- incidents and time

    public int person() throws IllegalStateException {
        requirePossible(duty.people < MOST_PEOPLE);
        duty.people++;
        return duty.people;
    }

    public int standIn(int turn, int person) throws IndexOutOfBoundsException, IllegalArgumentException {
        requireIndex(person, duty.people);
        requireFitting(isWithin(turn, 0, TURNS - 1));
        int was = duty.findOnDuty(turn);
        duty.standIns[turn] = person;
        return was;
    }

    public int alert(int service, int severity)
            throws IndexOutOfBoundsException, IllegalArgumentException, IllegalStateException {
        requireService(service);
        requireFitting(isWithin(severity, 0, HIGHEST_SEVERITY));
        int open = duty.findOpen(service);
        if (open == NONE) {
            requirePossible(duty.opened < MOST_INCIDENTS);
            return duty.openIncident(service, severity, minute);
        }
        duty.incidents[open].countAlert(severity);
        return open;
    }

    public int take(int incident, int person) throws IndexOutOfBoundsException, IllegalStateException {
        requireIncident(incident);
        requireIndex(person, duty.people);
        Incident taken = duty.incidents[incident];
        requirePossible(taken.taker == NONE && !taken.closed && hasBit(taken.paged, person));
        taken.taker = person;
        return Integer.bitCount(taken.paged);
    }

    public int close(int incident) throws IndexOutOfBoundsException, IllegalStateException {
        requireIncident(incident);
        Incident ended = duty.incidents[incident];
        requirePossible(ended.taker != NONE && !ended.closed);
        ended.closed = true;
        return ended.alerts;
    }

    public int incident(int incident, int what) throws IndexOutOfBoundsException, IllegalArgumentException {
        requireIncident(incident);
        requireFitting(isWithin(what, 0, 5));
        Incident asked = duty.incidents[incident];
        switch (what) {
            case 0:
                return asked.service;
            case 1:
                return asked.severity;
            case 2:
                return asked.alerts;
            case 3:
                return asked.lastPaged;
            case 4:
                return asked.taker;
            default:
                return asked.closed ? 1 : 0;
        }
    }

    public int pass(int minutes) throws IllegalArgumentException, IllegalStateException {
        requireFitting(isWithin(minutes, 1, LONGEST_PASS));
        requirePossible(minute + minutes <= LAST_MINUTE);
        int window = minute / WINDOW_MINUTES;
        minute += minutes;
        if (minute / WINDOW_MINUTES != window) {
            budgets.startWindow();
        }
        duty.pageUpTo(minute);
        return minute;
    }

    // ---- asking

    public int in(int ring, int service, int what) throws IndexOutOfBoundsException, IllegalArgumentException {
        requireRing(ring);
        requireService(service);
        requireFitting(isWithin(what, 0, 2));
        Ring asked = rings[ring];
        if (what == 0) {
            return asked.running[service];
        }
        return what == 1 ? asked.canary[service] : asked.former[service];
    }

    public boolean isSound(int ring) throws IndexOutOfBoundsException {
        requireRing(ring);
        return catalogue.allGoTogether(rings[ring].running, rings[ring].canary);
    }

    public int rolling(int service) throws IndexOutOfBoundsException {
        requireService(service);
        Rollout rollout = rollouts[service];
        if (rollout.build == NONE) {
            return NONE;
        }
        return 10 * rollout.build + (rollout.halted ? HALTED : rollout.ring);
    }

    public int plan(int ring, int build) throws IndexOutOfBoundsException {
        requireRing(ring);
        requireBuild(build);
        return planner.search(rings[ring].running, build);
    }

    public int planned(int change) throws IndexOutOfBoundsException {
        requireIndex(change, planner.changes);
        return planner.findChange(change);
    }

    // ---- what the calls of the face share

    private static void requireIndex(int index, int count) {
        if (index < 0 || index >= count) {
            throw new IndexOutOfBoundsException("there is none of this number");
        }
    }

    private static void requireFitting(boolean fitting) {
        if (!fitting) {
            throw new IllegalArgumentException("an argument is out of range");
        }
    }

    private static void requirePossible(boolean possible) {
        if (!possible) {
            throw new IllegalStateException("this is not possible now");
        }
    }

    private void requireService(int service) {
        requireIndex(service, catalogue.services);
    }

    private void requireBuild(int build) {
        requireIndex(build, catalogue.builds);
    }

    private void requireRing(int ring) {
        requireIndex(ring, RINGS);
    }

    private void requireFlag(int flag) {
        requireIndex(flag, flags.made);
    }

    private void requireIncident(int incident) {
        requireIndex(incident, duty.opened);
    }

    private static boolean isWithin(int value, int lowest, int highest) {
        return value >= lowest && value <= highest;
    }

    private static boolean isRangeOfBuckets(int from, int to) {
        return isWithin(from, 0, BUCKETS) && isWithin(to, from, BUCKETS);
    }

    private static boolean hasBit(int bits, int number) {
        return (bits & 1 << number) != 0;
    }

    private boolean runsSomewhere(int build) {
        int service = catalogue.serviceOf[build];
        for (int ring = 0; ring < RINGS; ring++) {
            if (rings[ring].running[service] == build) {
                return true;
            }
        }
        return false;
    }

    private boolean isCanarySomewhere(int build) {
        int service = catalogue.serviceOf[build];
        for (int ring = 0; ring < RINGS; ring++) {
            if (rings[ring].canary[service] == build) {
                return true;
            }
        }
        return false;
    }

    private boolean isInUse(int build) {
        return runsSomewhere(build) || isCanarySomewhere(build);
    }

    private boolean isColumnInUse(int column) {
        for (int build = 0; build < catalogue.builds; build++) {
            if (catalogue.doesUse(build, column) && isInUse(build)) {
                return true;
            }
        }
        return false;
    }

    /** The first reason against the next step of a roll-out, or DONE. */
    private int findRefusal(int service, Rollout rollout) {
        if (freezes.doHold(service, minute) && freezes.exceptions[service] == 0) {
            return FROZEN;
        }
        if (duty.hasGraveIncident(catalogue.needed[service] | 1 << service)) {
            return GRAVE_INCIDENT;
        }
        if (budgets.isUsedUp(service)) {
            return BUDGET_USED_UP;
        }
        if (!catalogue.isReady(rollout.build)) {
            return NOT_READY;
        }
        Ring ring = rings[rollout.ring];
        return ring.canary[service] == NONE ? findRefusalOfCanary(service, rollout, ring)
                : findRefusalOfGate(service, rollout, ring);
    }

    private int findRefusalOfCanary(int service, Rollout rollout, Ring ring) {
        if (!ring.wouldBeSound(service, ring.running[service], rollout.build)) {
            return NOT_SOUND;
        }
        boolean isBaked = rollout.ring == 0 || minute - rollout.runsSince >= BAKING_MINUTES;
        return isBaked ? DONE : NOT_BAKED;
    }

    private int findRefusalOfGate(int service, Rollout rollout, Ring ring) {
        if (!ring.wouldBeSound(service, rollout.build, NONE)) {
            return NOT_SOUND;
        }
        if (ring.isShortOfData(service)) {
            return DATA_MISSING;
        }
        return ring.isCanaryWorse(service) ? CANARY_WORSE : DONE;
    }

    private void advance(int service, Rollout rollout) {
        Ring ring = rings[rollout.ring];
        if (ring.canary[service] == NONE) {
            ring.startCanary(service, rollout.build);
            return;
        }
        ring.letCanaryRun(service);
        rollout.runsSince = minute;
        if (rollout.ring == RINGS - 1) {
            rollout.build = NONE;
        } else {
            rollout.ring++;
        }
    }

    private boolean canComeBack(int service, Ring ring) {
        int former = ring.former[service];
        return (former == NONE || catalogue.isReady(former))
                && ring.wouldBeSound(service, former, ring.canary[service]);
    }

    /** The services, what they need, their builds, and the columns. */
    private static final class Catalogue {
        int services;
        int builds;
        /** For each service those that it needs, a bit each. */
        final int[] needed = new int[MOST_SERVICES];
        final int[] serviceOf = new int[MOST_BUILDS];
        final int[] levelOf = new int[MOST_BUILDS];
        /** For each build and service the lowest level that is accepted. */
        final int[][] lowest = new int[MOST_BUILDS][MOST_SERVICES];
        final int[][] highest = new int[MOST_BUILDS][MOST_SERVICES];
        /** For each build the columns that it uses, a bit each. */
        final int[] columnsOf = new int[MOST_BUILDS];
        final boolean[] condemned = new boolean[MOST_BUILDS];
        /** For each column 0 to 100, or ABSENT or TAKEN_AWAY. */
        final int[] filled = new int[COLUMNS];

        Catalogue() {
            Arrays.fill(filled, ABSENT);
        }

        int addService() {
            services++;
            return services - 1;
        }

        boolean doesNeed(int service, int other) {
            return (needed[service] & 1 << other) != 0;
        }

        int addNeed(int service, int other) {
            needed[service] |= 1 << other;
            return Integer.bitCount(needed[service]);
        }

        boolean hasBuilds(int service) {
            for (int build = 0; build < builds; build++) {
                if (serviceOf[build] == service) {
                    return true;
                }
            }
            return false;
        }

        int addBuild(int service, int level) {
            int build = builds;
            serviceOf[build] = service;
            levelOf[build] = level;
            Arrays.fill(highest[build], HIGHEST_LEVEL);
            builds++;
            return build;
        }

        boolean doesUse(int build, int column) {
            return hasBit(columnsOf[build], column);
        }

        /** Whether a build may come to run: not condemned, and all its columns whole. */
        boolean isReady(int build) {
            for (int column = 0; column < COLUMNS; column++) {
                if (doesUse(build, column) && filled[column] != WHOLE) {
                    return false;
                }
            }
            return !condemned[build];
        }

        /** Whether a ring with these builds, one or NONE of each service, is sound. */
        boolean allGoTogether(int[] running, int[] canary) {
            for (int service = 0; service < services; service++) {
                if (!hasWhatItNeeds(running[service], running, canary)
                        || !hasWhatItNeeds(canary[service], running, canary)) {
                    return false;
                }
            }
            return true;
        }

        private boolean hasWhatItNeeds(int build, int[] running, int[] canary) {
            if (build == NONE) {
                return true;
            }
            for (int other = 0; other < services; other++) {
                if (doesNeed(serviceOf[build], other) && (running[other] == NONE
                        || !isAccepted(build, running[other]) || !isAccepted(build, canary[other]))) {
                    return false;
                }
            }
            return true;
        }

        private boolean isAccepted(int build, int other) {
            if (other == NONE) {
                return true;
            }
            int service = serviceOf[other];
            return levelOf[other] >= lowest[build][service] && levelOf[other] <= highest[build][service];
        }
    }

    /** What is in a ring, for each service, and the requests that count for the gate. */
    private static final class Ring {
        private final Catalogue catalogue;
        final int[] running = new int[MOST_SERVICES];
        final int[] canary = new int[MOST_SERVICES];
        final int[] former = new int[MOST_SERVICES];
        private final long[] runningAll = new long[MOST_SERVICES];
        private final long[] runningBad = new long[MOST_SERVICES];
        private final long[] canaryAll = new long[MOST_SERVICES];
        private final long[] canaryBad = new long[MOST_SERVICES];

        Ring(Catalogue catalogue) {
            this.catalogue = catalogue;
            Arrays.fill(running, NONE);
            Arrays.fill(canary, NONE);
            Arrays.fill(former, NONE);
        }

        boolean wouldBeSound(int service, int wouldRun, int wouldBeCanary) {
            int runs = running[service];
            int isCanary = canary[service];
            running[service] = wouldRun;
            canary[service] = wouldBeCanary;
            boolean sound = catalogue.allGoTogether(running, canary);
            running[service] = runs;
            canary[service] = isCanary;
            return sound;
        }

        void startCanary(int service, int build) {
            canary[service] = build;
            canaryAll[service] = 0;
            canaryBad[service] = 0;
            runningAll[service] = 0;
            runningBad[service] = 0;
        }

        /** The requests of what ran stay as they are: they go on as those of the new one. */
        void letCanaryRun(int service) {
            former[service] = running[service];
            running[service] = canary[service];
            canary[service] = NONE;
        }

        void comeBack(int service) {
            running[service] = former[service];
            former[service] = NONE;
        }

        int countForCanary(int service, int all, int bad) {
            canaryAll[service] += all;
            canaryBad[service] += bad;
            return (int) canaryAll[service];
        }

        int countForRunning(int service, int all, int bad) {
            runningAll[service] += all;
            runningBad[service] += bad;
            return (int) runningAll[service];
        }

        boolean isShortOfData(int service) {
            return canaryAll[service] < GATE_REQUESTS
                    || running[service] != NONE && runningAll[service] < GATE_REQUESTS;
        }

        /** Both shares are brought to one denominator, so that they are compared in exact numbers. */
        boolean isCanaryWorse(int service) {
            long all = canaryAll[service];
            long bad = canaryBad[service];
            if (running[service] == NONE) {
                return 100 * bad > GATE_MARGIN * all;
            }
            long otherAll = runningAll[service];
            long otherBad = runningBad[service];
            return 100 * (bad * otherAll - otherBad * all) > GATE_MARGIN * all * otherAll;
        }
    }

    /** The roll-out of one service; its build is NONE if there is none. */
    private static final class Rollout {
        int build = NONE;
        /** In how many rings the build runs by it, so also the next ring. */
        int ring;
        /** The minute at which it came to run in the ring ahead. */
        int runsSince;
        boolean halted;

        void startWith(int newBuild) {
            build = newBuild;
            ring = 0;
            halted = false;
        }
    }

    /** The freezes that were told, and the exceptions from them. */
    private static final class Freezes {
        int told;
        final int[] exceptions = new int[MOST_SERVICES];
        private final int[] serviceOf = new int[MOST_FREEZES];
        private final int[] from = new int[MOST_FREEZES];
        private final int[] to = new int[MOST_FREEZES];

        int add(int service, int first, int end) {
            serviceOf[told] = service;
            from[told] = first;
            to[told] = end;
            told++;
            return told;
        }

        boolean doHold(int service, int minute) {
            for (int freeze = 0; freeze < told; freeze++) {
                boolean isMeant = serviceOf[freeze] == NONE || serviceOf[freeze] == service;
                if (isMeant && minute >= from[freeze] && minute < to[freeze]) {
                    return true;
                }
            }
            return false;
        }
    }

    /** The budgets, and the requests of the present window. */
    private static final class Budgets {
        final int[] shares = new int[MOST_SERVICES];
        private final long[] all = new long[MOST_SERVICES];
        private final long[] bad = new long[MOST_SERVICES];

        Budgets() {
            Arrays.fill(shares, THOUSAND);
        }

        void startWindow() {
            Arrays.fill(all, 0);
            Arrays.fill(bad, 0);
        }

        void count(int service, int allMore, int badMore) {
            all[service] += allMore;
            bad[service] += badMore;
        }

        boolean isUsedUp(int service) {
            return all[service] > 0 && THOUSAND * bad[service] > shares[service] * all[service];
        }

        float usedPart(int service) {
            long whole = shares[service] * all[service];
            return whole > 0 ? (float) (THOUSAND * bad[service]) / (float) whole : 0f;
        }
    }

    /** The flags, and what is kept for the users that were seen. */
    private static final class Flags {
        int made;
        int seen;
        final int[] layerOf = new int[MOST_FLAGS];
        final int[] from = new int[MOST_FLAGS];
        final int[] to = new int[MOST_FLAGS];
        final boolean[] killed = new boolean[MOST_FLAGS];
        private final int[] neededBy = new int[MOST_FLAGS];
        private final int[] users = new int[MOST_USERS];
        /** For each user that was seen the flags that are kept, a bit each. */
        private final int[] kept = new int[MOST_USERS];

        int add(int layer, int first, int end, int needed) {
            int flag = made;
            layerOf[flag] = layer;
            from[flag] = first;
            to[flag] = end;
            neededBy[flag] = needed;
            made++;
            return flag;
        }

        /** Whether no flag of the layer but one has any of the buckets; an empty range meets none. */
        boolean areFree(int layer, int first, int end, int butFor) {
            for (int flag = 0; flag < made; flag++) {
                if (flag != butFor && layerOf[flag] == layer
                        && Math.max(first, from[flag]) < Math.min(end, to[flag])) {
                    return false;
                }
            }
            return true;
        }

        int findRow(int user) {
            for (int row = 0; row < seen; row++) {
                if (users[row] == user) {
                    return row;
                }
            }
            return NONE;
        }

        /** The flags that are on, a bit each: a flag needs only one of a lower number. */
        int findOn(int user) {
            int row = findRow(user);
            int keptOnes = row == NONE ? 0 : kept[row];
            int on = 0;
            for (int flag = 0; flag < made; flag++) {
                boolean isChosen = hasBit(keptOnes, flag) || hasBucketOf(flag, user);
                boolean hasNeeded = neededBy[flag] == NONE || hasBit(on, neededBy[flag]);
                if (!killed[flag] && isChosen && hasNeeded) {
                    on |= 1 << flag;
                }
            }
            return on;
        }

        int keepFor(int user) {
            int on = findOn(user);
            int row = findRow(user);
            if (row == NONE) {
                row = seen;
                users[row] = user;
                seen++;
            }
            kept[row] |= on;
            return Integer.bitCount(on);
        }

        private boolean hasBucketOf(int flag, int user) {
            long x = user * 73 + layerOf[flag] * 31 + 7;
            int bucket = (int) (x * x % 9973 % BUCKETS);
            return bucket >= from[flag] && bucket < to[flag];
        }
    }

    /** One incident. */
    private static final class Incident {
        int service;
        int severity;
        int alerts;
        int lastPaged = NONE;
        /** The people who were paged, a bit each. */
        int paged;
        int taker = NONE;
        boolean closed;
        private int nextPage;

        void startWith(int ofService, int firstSeverity, int person, int minute) {
            service = ofService;
            severity = firstSeverity;
            alerts = 1;
            nextPage = minute;
            pageOne(person);
        }

        void countAlert(int otherSeverity) {
            alerts++;
            severity = Math.max(severity, otherSeverity);
        }

        void pageUpTo(int minute, int people) {
            for (int page = 0; page < LONGEST_PASS && taker == NONE && nextPage <= minute; page++) {
                pageOne(lastPaged + 1 < people ? lastPaged + 1 : 0);
            }
        }

        private void pageOne(int person) {
            lastPaged = person;
            paged |= 1 << person;
            nextPage += PAGE_MINUTES;
        }
    }

    /** The people, their turns, and the incidents. */
    private static final class Duty {
        int people = 1;
        int opened;
        final int[] standIns = new int[TURNS];
        final Incident[] incidents = new Incident[MOST_INCIDENTS];

        Duty() {
            Arrays.fill(standIns, NONE);
            for (int incident = 0; incident < MOST_INCIDENTS; incident++) {
                incidents[incident] = new Incident();
            }
        }

        int findOnDuty(int turn) {
            if (standIns[turn] != NONE || people < 1) {
                return standIns[turn];
            }
            return turn % people;
        }

        int findOpen(int service) {
            for (int incident = 0; incident < opened; incident++) {
                if (incidents[incident].service == service && !incidents[incident].closed) {
                    return incident;
                }
            }
            return NONE;
        }

        int openIncident(int service, int severity, int minute) {
            int incident = opened;
            incidents[incident].startWith(service, severity, findOnDuty(minute / TURN_MINUTES), minute);
            opened++;
            return incident;
        }

        /** Whether an incident of a severity of 2 or 3 is open for one of the services, a bit each. */
        boolean hasGraveIncident(int services) {
            for (int incident = 0; incident < opened; incident++) {
                Incident one = incidents[incident];
                if (!one.closed && one.severity >= GRAVE_SEVERITY && hasBit(services, one.service)) {
                    return true;
                }
            }
            return false;
        }

        void pageUpTo(int minute) {
            for (int incident = 0; incident < opened; incident++) {
                incidents[incident].pageUpTo(minute, people);
            }
        }
    }

    /**
     * Finds plans: it goes through the states of a ring, nearest first, and from each one to the lowest
     * build first. So the first way found to a state is the shortest one with the lowest builds.
     */
    private static final class Planner {
        private final Catalogue catalogue;
        /** For each build its part of a state's number. */
        private final int[] place = new int[MOST_BUILDS];
        /** For each state's number the last search that came upon it. */
        private final int[] metBy = new int[MOST_STATES];
        /** For each state reached, in order: what runs (a bit each build), from which state, by which build. */
        private final int[] runningIn = new int[MOST_STATES];
        private final int[] reachedFrom = new int[MOST_STATES];
        private final int[] reachedBy = new int[MOST_STATES];
        /** The state that is looked at. */
        private final int[] running = new int[MOST_SERVICES];
        private final int[] noCanary = new int[MOST_SERVICES];
        private int searches;
        private int ready;
        private int reached;
        private int goal = NONE;
        /** How many changes the plan found last has; 0 if none was found. */
        int changes;

        Planner(Catalogue catalogue) {
            this.catalogue = catalogue;
            Arrays.fill(noCanary, NONE);
        }

        int search(int[] start, int target) {
            searches++;
            reached = 0;
            goal = NONE;
            placeBuilds();
            findReady();
            int bits = 0;
            for (int service = 0; service < MOST_SERVICES; service++) {
                bits |= start[service] == NONE ? 0 : 1 << start[service];
            }
            enter(bits, NONE, NONE);
            int number = lookAt(bits);
            if (number >= 0 && number < MOST_STATES) {
                metBy[number] = searches;
            }
            if (hasBit(bits, target)) {
                goal = 0;
            }
            for (int state = 0; state < MOST_STATES && state < reached && goal == NONE; state++) {
                leave(state, target);
            }
            changes = countChanges();
            return goal == NONE ? NONE : changes;
        }

        int findChange(int change) {
            int state = goal;
            for (int later = changes - 1; later > change && state > 0; later--) {
                state = reachedFrom[state];
            }
            return state > 0 ? reachedBy[state] : NONE;
        }

        private int countChanges() {
            int count = 0;
            for (int state = goal; state > 0 && count < MOST_STATES; state = reachedFrom[state]) {
                count++;
            }
            return count;
        }

        private void placeBuilds() {
            int weight = 1;
            for (int service = 0; service < MOST_SERVICES; service++) {
                int digit = 0;
                for (int build = 0; build < catalogue.builds; build++) {
                    if (catalogue.serviceOf[build] == service) {
                        digit++;
                        place[build] = digit * weight;
                    }
                }
                weight *= digit + 1;
            }
        }

        private void findReady() {
            ready = 0;
            for (int build = 0; build < catalogue.builds; build++) {
                if (catalogue.isReady(build)) {
                    ready |= 1 << build;
                }
            }
        }

        private void enter(int bits, int from, int by) {
            if (reached < MOST_STATES) {
                runningIn[reached] = bits;
                reachedFrom[reached] = from;
                reachedBy[reached] = by;
                reached++;
            }
        }

        private void leave(int state, int target) {
            int number = lookAt(runningIn[state]);
            for (int build = 0; build < catalogue.builds && goal == NONE; build++) {
                if (hasBit(ready, build) && tryChange(state, number, build) && build == target) {
                    goal = reached - 1;
                }
            }
        }

        /** Sets what runs in a state, and answers the state's number. */
        private int lookAt(int bits) {
            Arrays.fill(running, NONE);
            int number = 0;
            for (int build = 0; build < catalogue.builds; build++) {
                if (hasBit(bits, build)) {
                    running[catalogue.serviceOf[build]] = build;
                    number += place[build];
                }
            }
            return number;
        }

        /** Whether a change leads to a sound state that was not met yet; if so it is entered. */
        private boolean tryChange(int state, int number, int build) {
            int service = catalogue.serviceOf[build];
            int old = running[service];
            int next = number + place[build] - (old == NONE ? 0 : place[old]);
            if (old == build || next < 0 || next >= MOST_STATES || metBy[next] == searches) {
                return false;
            }
            metBy[next] = searches;
            running[service] = build;
            boolean sound = catalogue.allGoTogether(running, noCanary);
            running[service] = old;
            if (sound) {
                int others = old == NONE ? runningIn[state] : runningIn[state] & ~(1 << old);
                enter(others | 1 << build, state, build);
            }
            return sound;
        }
    }
}
