import java.util.ArrayList;
import java.util.List;

/**
 * A row of later calls that brings to light how a hall is: what can be asked first, then calls whose answers
 * tell what can't be asked. It ends the hall, as it changes it all over.
 */
final class Probe {
    /** A hall answers 512 calls; the others are for the way to its state. */
    private static final int MOST_CALLS = 370;
    private static final int[] USERS = {0, 1, 2, 7, 999};

    private final RolloutHall x;
    private final List<String> answers = new ArrayList<>();
    private int services;
    private int builds;
    private int flags;
    private int incidents;

    private Probe(RolloutHall x) {
        this.x = x;
    }

    static List<String> of(RolloutHall x) {
        Probe probe = new Probe(x);
        probe.askPlan();
        probe.askRollouts();
        probe.askFlags();
        probe.askIncidents();
        probe.tellRollouts();
        probe.tellFlags();
        probe.tellPeople();
        probe.tellCatalogue();
        return probe.answers;
    }

    /** Answers whether the call threw nothing. */
    private boolean ask(String what, Check.Call call) {
        if (answers.size() >= MOST_CALLS) {
            return false;
        }
        String answer = String.valueOf(Check.outcome(call));
        answers.add(what + " " + answer);
        return !answer.startsWith("throws.");
    }

    private void askPlan() {
        for (int i = 0; i < 20; i++) {
            int change = i;
            if (!ask("planned " + change, () -> x.planned(change))) {
                return;
            }
        }
    }

    private void askRollouts() {
        while (services < 5 && ask("rolling " + services, () -> x.rolling(services))) {
            ask("used " + services, () -> x.used(services));
            for (int i = 0; i < 12; i++) {
                int ring = i / 3;
                int what = i % 3;
                ask("in " + ring + " " + services + " " + what, () -> x.in(ring, services, what));
            }
            services++;
        }
        for (int i = 0; i < 4; i++) {
            int ring = i;
            ask("isSound " + ring, () -> x.isSound(ring));
        }
    }

    private void askFlags() {
        boolean there = true;
        while (flags < 12 && there) {
            for (int user : USERS) {
                there = there && ask("isOn " + flags + " " + user, () -> x.isOn(flags, user));
            }
            flags += there ? 1 : 0;
        }
    }

    private void askIncidents() {
        boolean there = true;
        while (incidents < 12 && there) {
            for (int i = 0; i < 6; i++) {
                int what = i;
                there = there && ask("incident " + incidents + " " + what, () -> x.incident(incidents, what));
            }
            incidents += there ? 1 : 0;
        }
    }

    private void tellRollouts() {
        for (int i = 0; i < services; i++) {
            int service = i;
            for (int j = 0; j < 8; j++) {
                int ring = j / 2;
                boolean isCanary = j % 2 == 1;
                ask("requests " + service + " " + ring, () -> x.requests(service, ring, isCanary, 0, 0));
            }
            ask("step " + service, () -> x.step(service));
            ask("except " + service, () -> x.except(service));
            ask("budget " + service, () -> x.budget(service, 500));
        }
        while (builds < 24 && ask("plan " + builds, () -> x.plan(0, builds))) {
            if (builds < 5) {
                ask("planned 0", () -> x.planned(0));
                ask("plan 3 " + builds, () -> x.plan(3, builds));
                ask("condemn " + builds, () -> x.condemn(builds));
            }
            builds++;
        }
        ask("freeze", () -> x.freeze(-1, 9998, 9999));
    }

    private void tellFlags() {
        for (int i = 0; i < flags; i++) {
            int flag = i;
            ask("kill " + flag, () -> x.kill(flag));
            ask("resize " + flag, () -> x.resize(flag, 0, 0));
        }
        boolean there = true;
        for (int i = 0; i < 31 && there; i++) {
            int user = i;
            there = ask("see " + user, () -> x.see(user));
        }
        ask("flag", () -> x.flag(0, 0, 0, -1));
    }

    private void tellPeople() {
        for (int i = 0; i < incidents; i++) {
            int incident = i;
            boolean taken = false;
            for (int j = 0; j < 5 && !taken; j++) {
                int person = j;
                taken = ask("take " + incident + " " + person, () -> x.take(incident, person));
            }
            ask("close " + incident, () -> x.close(incident));
        }
        for (int i = 0; i < 21; i++) {
            int turn = i;
            ask("standIn " + turn, () -> x.standIn(turn, 0));
        }
        ask("person", () -> x.person());
        ask("pass", () -> x.pass(1));
    }

    private void tellCatalogue() {
        for (int i = 0; i < 5; i++) {
            int column = i;
            ask("column " + column, () -> x.column(column, 1));
            ask("column " + column, () -> x.column(column, -1));
        }
        for (int i = 0; i < services; i++) {
            int service = i;
            ask("back " + service, () -> x.back(service));
            ask("alert " + service, () -> x.alert(service, 0));
            ask("needs " + service, () -> x.needs(service, (service + 1) % 5));
            ask("build " + service, () -> x.build(service, 0));
        }
        for (int i = 0; i < Math.min(builds, 4) * 5; i++) {
            int build = i / 5;
            int column = i % 5;
            ask("uses " + build + " " + column, () -> {
                x.uses(build, column);
                return 0;
            });
        }
        ask("service", () -> x.service());
    }
}
