import java.util.List;

/** What the tests of edges share: ways to a state, and refused calls that must change nothing. */
abstract class Edges {
    /** Calls on a hall. */
    interface Told {
        void to(RolloutHall x);
    }

    /** Words of the document that hold for many calls. */
    static final String SEVERAL =
            "If several apply, IndexOutOfBoundsException goes first, then IllegalArgumentException.";
    static final String UNCHANGED = "A call that throws an exception changes nothing.";

    static final Told NOTHING = x -> { };
    static final int NONE = -1;
    static final int LEAST = Integer.MIN_VALUE;
    static final int GREATEST = Integer.MAX_VALUE;

    static RolloutHall hall(Told... ahead) {
        RolloutHall x = new RolloutHall();
        all(ahead).to(x);
        return x;
    }

    static Told all(Told... told) {
        return x -> {
            for (Told one : told) {
                one.to(x);
            }
        };
    }

    static Told times(int count, Told told) {
        return x -> {
            for (int i = 0; i < count; i++) {
                told.to(x);
            }
        };
    }

    static Told services(int count) {
        return times(count, x -> x.service());
    }

    /** One service with so many builds of the level 0. */
    static Told builds(int count) {
        return all(services(1), times(count, x -> x.build(0, 0)));
    }

    /** The service 1 needs the service 0; the builds 0 and 1 of 0 have the levels 0 and 1; 2 and 3 are of 1. */
    static void pair(RolloutHall x) {
        x.service();
        x.service();
        x.needs(1, 0);
        x.build(0, 0);
        x.build(0, 1);
        x.build(1, 0);
        x.build(1, 0);
    }

    /** Begins a roll-out and lets the build run in so many rings. */
    static Told run(int build, int rings) {
        return x -> Halls.roll(x, build, rings);
    }

    /** Adds a column and fills it. */
    static Told whole(int column) {
        return x -> {
            x.column(column, 1);
            x.column(column, 100);
        };
    }

    static Told people(int count) {
        return times(count - 1, x -> x.person());
    }

    /** Lets minutes pass, more than 600 too. */
    static Told passed(int minutes) {
        return x -> {
            int left = minutes;
            while (left > 0) {
                x.pass(Math.min(left, 600));
                left -= Math.min(left, 600);
            }
        };
    }

    static Told ended(int incident, int person) {
        return x -> {
            x.take(incident, person);
            x.close(incident);
        };
    }

    static void due(String what, Object got, Object want) {
        Check.due(what, got, want);
    }

    static void noSuch(Told ahead, Told... calls) {
        refused(IndexOutOfBoundsException.class, ahead, calls);
    }

    static void outOfRange(Told ahead, Told... calls) {
        refused(IllegalArgumentException.class, ahead, calls);
    }

    static void notNow(Told ahead, Told... calls) {
        refused(IllegalStateException.class, ahead, calls);
    }

    /** Each of the calls alone must be refused in that state, and leave it as it was. */
    private static void refused(Class<?> kind, Told ahead, Told... calls) {
        List<String> want = Probe.of(hall(ahead));
        for (int call = 0; call < calls.length; call++) {
            RolloutHall x = hall(ahead);
            Told one = calls[call];
            Check.refused("refused call " + call, kind, () -> one.to(x));
            same("refused call " + call, Probe.of(x), want);
        }
    }

    /** The calls must be answered, and all later ones just as if they had not been made. */
    static void changesNothing(Told ahead, Told... calls) {
        List<String> want = Probe.of(hall(ahead));
        for (int call = 0; call < calls.length; call++) {
            RolloutHall x = hall(ahead);
            calls[call].to(x);
            same("call " + call, Probe.of(x), want);
        }
    }

    private static void same(String call, List<String> got, List<String> want) {
        for (int i = 0; i < Math.min(got.size(), want.size()); i++) {
            if (!got.get(i).equals(want.get(i))) {
                due("after " + call, got.get(i), want.get(i));
                return;
            }
        }
        due("how many answers after " + call, got.size(), want.size());
    }
}
