/** Edges of the promises 22 to 28: people, turns, incidents, time. */
final class EdgesOfDuty extends Edges {
    private static final String PAGED = "When an incident is opened, who is on duty is paged; as long as it is not taken, "
            + "the next person by numbers, round and round, is paged 10 minutes later, and so on.";

    private static int lastPaged(RolloutHall x, int incident) {
        return x.incident(incident, 3);
    }

    // ---- promise 22: person

    @Says(promise = 22, value = "Adds a person.")
    static void p22_addsOnePerson() {
        RolloutHall x = hall(y -> y.person());
        due("the person 1 is there", x.standIn(0, 1), 0);
        Check.noSuch("one alone", () -> x.standIn(0, 2));
    }

    @Says(promise = 22, value = "Returns how many there are then.")
    static void p22_fromTwoToFive() {
        RolloutHall x = new RolloutHall();
        for (int count = 2; count <= 5; count++) {
            due("person()", x.person(), count);
        }
    }

    @Says(promise = 22, value = "Throws `IllegalStateException` if there are 5")
    static void p22_thereAreFive() {
        due("the last one that is taken", hall(people(4)).person(), 5);
        notNow(people(5), x -> x.person());
    }

    @Says(promise = 22, value = UNCHANGED)
    static void p22_refusedChangesNothing() {
        RolloutHall x = hall(people(5));
        Check.notNow("there are 5", () -> x.person());
        Check.noSuch("no sixth one", () -> x.standIn(0, 5));
        due("the turn 5 is of the first one", x.standIn(5, 0), 0);
        due("the turn 4 is of the fifth one", x.standIn(4, 0), 4);
    }

    // ---- promise 23: standIn

    @Says(promise = 23, value = "Lets somebody stand in for a turn, in place of whoever did.")
    static void p23_inPlaceOfWhoeverDid() {
        RolloutHall x = hall(people(3), services(3), y -> y.standIn(0, 2));
        due("the first one", lastPaged(x, x.alert(0, 0)), 2);
        x.standIn(0, 1);
        due("the next one", lastPaged(x, x.alert(1, 0)), 1);
        x.standIn(0, 1);
        due("the same one", lastPaged(x, x.alert(2, 0)), 1);
        due("who was paged stays", lastPaged(x, 0), 2);
    }

    @Says(promise = 23, value = "`turn`: 0 to 20: the minutes from 480 * turn up to ahead of 480 * (turn + 1)")
    static void p23_turnSmallestAndGreatest() {
        Told three = all(people(3), services(1), x -> x.standIn(0, 2), x -> x.standIn(20, 1));
        due("the minute 0", lastPaged(hall(three, x -> x.alert(0, 0)), 0), 2);
        due("the minute 9599", lastPaged(hall(three, passed(9599), x -> x.alert(0, 0)), 0), 1);
        due("the minute 9600", lastPaged(hall(three, x -> x.standIn(19, 0), passed(9600), x -> x.alert(0, 0)), 0), 1);
        due("the minute 9999", lastPaged(hall(three, passed(9999), x -> x.alert(0, 0)), 0), 1);
    }

    @Says(promise = 23, value = "the minutes from 480 * turn up to ahead of 480 * (turn + 1)")
    static void p23_firstAndLastMinuteOfATurn() {
        Told stands = all(people(3), services(1), x -> x.standIn(3, 1));
        due("1439", lastPaged(hall(stands, passed(1439), x -> x.alert(0, 0)), 0), 2);
        due("1440", lastPaged(hall(stands, passed(1440), x -> x.alert(0, 0)), 0), 1);
        due("1919", lastPaged(hall(stands, passed(1919), x -> x.alert(0, 0)), 0), 1);
        due("1920", lastPaged(hall(stands, x -> x.standIn(4, 2), passed(1920), x -> x.alert(0, 0)), 0), 2);
    }

    @Says(promise = 23, value = "`person`: a person")
    static void p23_personSmallestAndGreatest() {
        RolloutHall x = hall(people(5), y -> y.standIn(1, 0), y -> y.standIn(0, 4));
        due("0", x.standIn(1, 1), 0);
        due("4", x.standIn(0, 1), 4);
    }

    @Says(promise = 23, value = "Returns who was on duty in that turn by what was told ahead.")
    static void p23_whoWasOnDuty() {
        RolloutHall x = hall(people(3));
        for (int turn = 0; turn <= 20; turn++) {
            due("by turns, " + turn, x.standIn(turn, (turn + 1) % 3), turn % 3);
        }
        for (int turn = 0; turn <= 20; turn++) {
            due("by what was told, " + turn, x.standIn(turn, 0), (turn + 1) % 3);
        }
        x.person();
        due("by what was told", x.standIn(7, 3), 0);
        due("and again", x.standIn(7, 0), 3);
    }

    @Says(promise = 23, value = "There are people, 1 to 5 of them, on duty by turns of 480 minutes, 0 first (the turn "
            + "modulo how many there are now); somebody may stand in for a turn.")
    static void p23_byTurnsOfFromOneToFive() {
        for (int count = 1; count <= 5; count++) {
            RolloutHall x = hall(people(count));
            for (int turn = 0; turn <= 20; turn++) {
                due("the turn " + turn + " of " + count, x.standIn(turn, 0), turn % count);
            }
        }
        RolloutHall x = hall(people(2), services(2), passed(960), y -> y.alert(0, 0), y -> y.person(),
                y -> y.alert(1, 0));
        due("of two", lastPaged(x, 0), 0);
        due("of three, now", lastPaged(x, 1), 2);
    }

    @Says(promise = 23, value = "on duty by turns of 480 minutes, 0 first")
    static void p23_turnsInMinutes() {
        int[][] known = {{0, 0}, {479, 0}, {480, 1}, {959, 1}, {960, 2}, {1439, 2}, {1440, 0}, {9599, 1}, {9600, 2},
            {9999, 2}};
        for (int[] one : known) {
            RolloutHall x = hall(people(3), services(1), passed(one[0]), y -> y.alert(0, 0));
            due("the minute " + one[0], lastPaged(x, 0), one[1]);
        }
    }

    @Says(promise = 23, value = "Throws `IndexOutOfBoundsException` if there is no such person")
    static void p23_noSuchPerson() {
        noSuch(NOTHING, x -> x.standIn(0, 1));
        noSuch(people(3), x -> x.standIn(0, 3), x -> x.standIn(0, -1), x -> x.standIn(0, LEAST),
                x -> x.standIn(0, GREATEST));
        noSuch(people(5), x -> x.standIn(0, 5));
    }

    @Says(promise = 23, value = "Throws `IllegalArgumentException` if turn is out of range")
    static void p23_turnOutOfRange() {
        outOfRange(people(2), x -> x.standIn(-1, 0), x -> x.standIn(21, 0), x -> x.standIn(LEAST, 0),
                x -> x.standIn(GREATEST, 1));
    }

    @Says(promise = 23, value = SEVERAL)
    static void p23_firstOfSeveral() {
        noSuch(people(2), x -> x.standIn(21, 2), x -> x.standIn(-1, -1));
    }

    @Says(promise = 23, value = UNCHANGED)
    static void p23_refusedChangesNothing() {
        RolloutHall x = hall(people(3), y -> y.standIn(4, 2));
        Check.noSuch("no person 3", () -> x.standIn(4, 3));
        Check.noSuch("no person -1", () -> x.standIn(4, -1));
        Check.outOfRange("turn 21", () -> x.standIn(21, 0));
        due("who stands in", x.standIn(4, 0), 2);
        due("the turn 20", x.standIn(20, 0), 2);
        due("the turn 0", x.standIn(0, 0), 0);
    }

    // ---- promise 24: alert

    @Says(promise = 24, value = "Tells an alert.")
    static void p24_anIncidentIsOpened() {
        RolloutHall x = hall(services(2), y -> y.alert(1, 2));
        int[] want = {1, 2, 1, 0, -1, 0};
        for (int what = 0; what < 6; what++) {
            due("what " + what, x.incident(0, what), want[what]);
        }
    }

    @Says(promise = 24, value = "`service`: a service")
    static void p24_serviceSmallestAndGreatest() {
        RolloutHall x = hall(services(5), y -> y.alert(4, 0), y -> y.alert(0, 0));
        due("4", x.incident(0, 0), 4);
        due("0", x.incident(1, 0), 0);
    }

    @Says(promise = 24, value = "`severity`: 0 to 3")
    static void p24_severitySmallestAndGreatest() {
        due("0", hall(services(1), x -> x.alert(0, 0)).incident(0, 1), 0);
        due("3", hall(services(1), x -> x.alert(0, 3)).incident(0, 1), 3);
    }

    @Says(promise = 24, value = "An alert tells a service and a severity, 0 to 3.")
    static void p24_eachSeverity() {
        for (int severity = 0; severity <= 3; severity++) {
            int told = severity;
            due("severity", hall(services(1), x -> x.alert(0, told)).incident(0, 1), severity);
        }
    }

    @Says(promise = 24, value = "Returns number of the incident.")
    static void p24_numbersFromZeroTo11() {
        RolloutHall x = hall(services(5));
        for (int incident = 0; incident < 12; incident++) {
            int service = incident % 5;
            due("alert()", x.alert(service, 0), incident);
            due("one more", x.alert(service, 1), incident);
            x.take(incident, 0);
            x.close(incident);
        }
    }

    @Says(promise = 24, value = "If an incident is open for the service, that counts one alert more, and has the greater "
            + "severity; otherwise a new one is opened.")
    static void p24_oneAlertMoreAndTheGreaterSeverity() {
        for (int first = 0; first <= 3; first++) {
            for (int second = 0; second <= 3; second++) {
                RolloutHall x = hall(services(2));
                x.alert(0, first);
                due("the same one", x.alert(0, second), 0);
                due("one alert more", x.incident(0, 2), 2);
                due("the greater severity", x.incident(0, 1), Math.max(first, second));
                due("of another service", x.alert(1, 0), 1);
            }
        }
    }

    @Says(promise = 24, value = "otherwise a new one is opened.")
    static void p24_takenIsOpenClosedIsNot() {
        RolloutHall x = hall(services(1), y -> y.alert(0, 3), y -> y.take(0, 0));
        due("taken", x.alert(0, 1), 0);
        x.close(0);
        due("closed", x.alert(0, 1), 1);
        due("its own severity", x.incident(1, 1), 1);
        due("its own alerts", x.incident(1, 2), 1);
        due("it is not taken", x.incident(1, 4), NONE);
        due("it is open", x.incident(1, 5), 0);
        due("the closed one counted two", x.incident(0, 2), 2);
        due("its severity stays", x.incident(0, 1), 3);
    }

    @Says(promise = 24, value = "Throws `IndexOutOfBoundsException` if there is no such service")
    static void p24_noSuchService() {
        noSuch(NOTHING, x -> x.alert(0, 0));
        noSuch(services(2), x -> x.alert(2, 0), x -> x.alert(-1, 0), x -> x.alert(LEAST, 0), x -> x.alert(GREATEST, 0));
        noSuch(services(5), x -> x.alert(5, 0));
    }

    @Says(promise = 24, value = "Throws `IllegalArgumentException` if severity is out of range")
    static void p24_severityOutOfRange() {
        Told[] wrong = {x -> x.alert(0, -1), x -> x.alert(0, 4), x -> x.alert(0, LEAST), x -> x.alert(0, GREATEST)};
        outOfRange(services(1), wrong);
        outOfRange(all(services(1), x -> x.alert(0, 1)), wrong);
    }

    /** There were so many incidents for the service 0, all closed. */
    private static Told incidents(int count) {
        return all(services(2), times(count, x -> ended(x.alert(0, 0), 0).to(x)));
    }

    @Says(promise = 24, value = "Throws `IllegalStateException` if a new one would be opened, and there were 12")
    static void p24_thereWere12() {
        due("the last one that is opened", hall(incidents(11)).alert(1, 0), 11);
        notNow(incidents(12), x -> x.alert(0, 0), x -> x.alert(1, 3));
        Told open = all(incidents(11), x -> x.alert(1, 0));
        due("one that is open", hall(open).alert(1, 3), 11);
        notNow(open, x -> x.alert(0, 0));
    }

    @Says(promise = 24, value = SEVERAL)
    static void p24_firstOfSeveral() {
        noSuch(incidents(12), x -> x.alert(2, 4), x -> x.alert(-1, -1), x -> x.alert(2, 0));
        outOfRange(incidents(12), x -> x.alert(0, 4), x -> x.alert(1, -1));
    }

    @Says(promise = 24, value = UNCHANGED)
    static void p24_refusedChangesNothing() {
        RolloutHall x = hall(incidents(11), y -> y.alert(1, 1));
        Check.notNow("there were 12", () -> x.alert(0, 3));
        Check.outOfRange("severity 4", () -> x.alert(1, 4));
        Check.noSuch("no service 2", () -> x.alert(2, 0));
        due("one alert", x.incident(11, 2), 1);
        due("of severity 1", x.incident(11, 1), 1);
        Check.noSuch("no incident 12", () -> x.incident(12, 0));
    }

    // ---- promise 25: take

    /** Three people; an incident of the minute 0, for which 0 and 1 were paged. */
    private static void pagedTwo(RolloutHall x) {
        all(people(3), services(2), y -> y.alert(0, 0), passed(10)).to(x);
    }

    @Says(promise = 25, value = "Lets a person take an incident.")
    static void p25_itIsTaken() {
        RolloutHall x = hall(EdgesOfDuty::pagedTwo, y -> y.take(0, 1));
        due("who took it", x.incident(0, 4), 1);
        due("it is open", x.incident(0, 5), 0);
    }

    @Says(promise = 25, value = "`incident`: an incident")
    static void p25_incidentSmallestAndGreatest() {
        due("11", hall(incidents(11), x -> x.alert(1, 0)).take(11, 0), 1);
        RolloutHall x = hall(services(2), y -> y.alert(0, 0), y -> y.alert(1, 0), y -> y.take(0, 0));
        due("0", x.incident(0, 4), 0);
        due("1 was not", x.incident(1, 4), NONE);
    }

    @Says(promise = 25, value = "`person`: a person")
    static void p25_personSmallestAndGreatest() {
        Told all = all(people(5), services(1), x -> x.alert(0, 0), passed(40));
        due("0", hall(all).take(0, 0), 5);
        due("4", hall(all).take(0, 4), 5);
    }

    @Says(promise = 25, value = "Returns how many unlike people were paged for it.")
    static void p25_fromOneToFive() {
        for (int minutes = 0; minutes <= 70; minutes += 10) {
            RolloutHall x = hall(people(5), services(1), y -> y.alert(0, 0), passed(minutes));
            due("after " + minutes, x.take(0, 0), Math.min(5, 1 + minutes / 10));
        }
        due("of one person", hall(services(1), x -> x.alert(0, 0), passed(600)).take(0, 0), 1);
    }

    @Says(promise = 25, value = "Who was paged can take it; then nobody else is paged.")
    static void p25_thenNobodyElseIsPaged() {
        RolloutHall x = hall(EdgesOfDuty::pagedTwo, y -> y.alert(1, 0), passed(9), y -> y.take(0, 0), passed(1));
        due("nobody else for it", lastPaged(x, 0), 1);
        due("for another one", lastPaged(x, 1), 1);
        x.pass(600);
        due("nobody else for good", lastPaged(x, 0), 1);
        x.close(0);
        x.pass(600);
        due("nor when it is closed", lastPaged(x, 0), 1);
    }

    @Says(promise = 25, value = "Throws `IndexOutOfBoundsException` if there is no such incident or person")
    static void p25_noSuchIncidentOrPerson() {
        noSuch(services(1), x -> x.take(0, 0));
        noSuch(EdgesOfDuty::pagedTwo, x -> x.take(1, 0), x -> x.take(-1, 0), x -> x.take(LEAST, 0),
                x -> x.take(GREATEST, 0), x -> x.take(0, 3), x -> x.take(0, -1), x -> x.take(0, LEAST),
                x -> x.take(0, GREATEST), x -> x.take(0, 32));
        noSuch(incidents(12), x -> x.take(12, 0));
    }

    @Says(promise = 25, value = "Throws `IllegalStateException` if it is taken or closed")
    static void p25_itIsTakenOrClosed() {
        notNow(all(EdgesOfDuty::pagedTwo, x -> x.take(0, 0)), x -> x.take(0, 0), x -> x.take(0, 1));
        notNow(all(EdgesOfDuty::pagedTwo, ended(0, 0)), x -> x.take(0, 0), x -> x.take(0, 1));
    }

    @Says(promise = 25, value = ", or the person was not paged")
    static void p25_thePersonWasNotPaged() {
        notNow(EdgesOfDuty::pagedTwo, x -> x.take(0, 2));
        notNow(all(EdgesOfDuty::pagedTwo, passed(9)), x -> x.take(0, 2));
        due("a minute later", hall(EdgesOfDuty::pagedTwo, passed(10)).take(0, 2), 3);
        notNow(all(EdgesOfDuty::pagedTwo, x -> x.alert(1, 0)), x -> x.take(1, 1));
        notNow(all(people(3), services(1), x -> x.standIn(0, 2), x -> x.alert(0, 0)), x -> x.take(0, 0));
        notNow(all(people(3), services(1), x -> x.alert(0, 0), x -> x.standIn(0, 2)), x -> x.take(0, 2));
    }

    @Says(promise = 25, value = SEVERAL)
    static void p25_firstOfSeveral() {
        Told taken = all(EdgesOfDuty::pagedTwo, x -> x.take(0, 0));
        noSuch(taken, x -> x.take(0, 3), x -> x.take(0, -1), x -> x.take(1, 0));
    }

    @Says(promise = 25, value = UNCHANGED)
    static void p25_refusedChangesNothing() {
        RolloutHall x = hall(EdgesOfDuty::pagedTwo);
        Check.notNow("the person 2", () -> x.take(0, 2));
        Check.noSuch("no person 3", () -> x.take(0, 3));
        Check.noSuch("no incident 1", () -> x.take(1, 0));
        due("it is not taken", x.incident(0, 4), NONE);
        x.pass(10);
        due("the next one is paged", lastPaged(x, 0), 2);
        x.take(0, 1);
        Check.notNow("it is taken", () -> x.take(0, 0));
        due("by the first who did", x.incident(0, 4), 1);
    }

    // ---- promise 26: close

    @Says(promise = 26, value = "Closes an incident.")
    static void p26_itIsClosed() {
        RolloutHall x = hall(EdgesOfDuty::pagedTwo, y -> y.alert(1, 0), ended(0, 1));
        due("closed", x.incident(0, 5), 1);
        due("who took it", x.incident(0, 4), 1);
        due("the other one is open", x.incident(1, 5), 0);
    }

    @Says(promise = 26, value = "`incident`: an incident")
    static void p26_incidentSmallestAndGreatest() {
        RolloutHall x = hall(incidents(11), y -> y.alert(1, 0), y -> y.take(11, 0));
        due("11", x.close(11), 1);
        due("0", hall(services(1), y -> y.alert(0, 0), y -> y.take(0, 0)).close(0), 1);
    }

    @Says(promise = 26, value = "Returns how many alerts it counted.")
    static void p26_fromOneOn() {
        for (int count = 1; count <= 400; count += 133) {
            RolloutHall x = hall(services(1), times(count, y -> y.alert(0, 0)), y -> y.take(0, 0));
            due("alerts", x.close(0), count);
        }
        RolloutHall x = hall(services(1), y -> y.alert(0, 0), y -> y.take(0, 0), y -> y.alert(0, 0));
        due("one more when it was taken", x.close(0), 2);
    }

    @Says(promise = 26, value = "It can be closed when it was taken.")
    static void p26_onlyWhenItWasTaken() {
        RolloutHall x = hall(EdgesOfDuty::pagedTwo);
        Check.notNow("not taken", () -> x.close(0));
        x.take(0, 0);
        due("taken", x.close(0), 1);
    }

    @Says(promise = 26, value = "Throws `IndexOutOfBoundsException` if there is no such incident")
    static void p26_noSuchIncident() {
        noSuch(services(1), x -> x.close(0));
        noSuch(all(EdgesOfDuty::pagedTwo, x -> x.take(0, 0)), x -> x.close(1), x -> x.close(-1), x -> x.close(LEAST),
                x -> x.close(GREATEST));
        noSuch(incidents(12), x -> x.close(12));
    }

    @Says(promise = 26, value = "Throws `IllegalStateException` if it is not taken, or is closed")
    static void p26_notTakenOrClosed() {
        notNow(EdgesOfDuty::pagedTwo, x -> x.close(0));
        notNow(all(EdgesOfDuty::pagedTwo, ended(0, 0)), x -> x.close(0));
        notNow(all(EdgesOfDuty::pagedTwo, x -> x.alert(1, 0), x -> x.take(0, 0)), x -> x.close(1));
    }

    @Says(promise = 26, value = SEVERAL)
    static void p26_firstOfSeveral() {
        noSuch(EdgesOfDuty::pagedTwo, x -> x.close(1), x -> x.close(-1));
    }

    @Says(promise = 26, value = UNCHANGED)
    static void p26_refusedChangesNothing() {
        RolloutHall x = hall(EdgesOfDuty::pagedTwo);
        Check.notNow("not taken", () -> x.close(0));
        Check.noSuch("no incident 1", () -> x.close(1));
        due("open still", x.incident(0, 5), 0);
        due("the same one", x.alert(0, 0), 0);
        x.take(0, 0);
        due("two alerts", x.close(0), 2);
        Check.notNow("closed", () -> x.close(0));
        due("closed still", x.incident(0, 5), 1);
        due("a new one", x.alert(0, 0), 1);
    }

    // ---- promise 27: incident

    @Says(promise = 27, value = "Returns how an incident is.")
    static void p27_askingChangesNothing() {
        changesNothing(EdgesOfDuty::pagedTwo, x -> x.incident(0, 0), x -> x.incident(0, 3), x -> x.incident(0, 5));
    }

    @Says(promise = 27, value = "`incident`: an incident")
    static void p27_incidentSmallestAndGreatest() {
        RolloutHall x = hall(incidents(11), y -> y.alert(1, 3));
        due("0", x.incident(0, 1), 0);
        due("11", x.incident(11, 1), 3);
    }

    @Says(promise = 27, value = "`what`: 0 its service, 1 its severity, 2 how many alerts it counted, 3 who was paged last, "
            + "4 who took it, -1 if nobody, 5 1 if it is closed, 0 if not")
    static void p27_eachWhat() {
        RolloutHall x = hall(people(3), services(3), y -> y.alert(2, 1), y -> y.alert(2, 3), y -> y.alert(2, 0),
                passed(20));
        expect(x, 2, 3, 3, 2, -1, 0);
        x.take(0, 1);
        expect(x, 2, 3, 3, 2, 1, 0);
        x.close(0);
        expect(x, 2, 3, 3, 2, 1, 1);
    }

    private static void expect(RolloutHall x, int... want) {
        for (int what = 0; what < 6; what++) {
            due("what " + what, x.incident(0, what), want[what]);
        }
    }

    @Says(promise = 27, value = "4 who took it, -1 if nobody")
    static void p27_whoTookIt() {
        due("nobody", hall(EdgesOfDuty::pagedTwo).incident(0, 4), -1);
        due("0", hall(EdgesOfDuty::pagedTwo, x -> x.take(0, 0)).incident(0, 4), 0);
        due("1", hall(EdgesOfDuty::pagedTwo, x -> x.take(0, 1)).incident(0, 4), 1);
    }

    @Says(promise = 27, value = "Returns that.")
    static void p27_afterItWasClosed() {
        RolloutHall x = hall(people(2), services(2), y -> y.alert(1, 2), ended(0, 0), y -> y.alert(1, 3), passed(30));
        expect(x, 1, 2, 1, 0, 0, 1);
    }

    @Says(promise = 27, value = "Throws `IndexOutOfBoundsException` if there is no such incident")
    static void p27_noSuchIncident() {
        noSuch(services(1), x -> x.incident(0, 0));
        noSuch(EdgesOfDuty::pagedTwo, x -> x.incident(1, 0), x -> x.incident(-1, 0), x -> x.incident(LEAST, 0),
                x -> x.incident(GREATEST, 0));
        noSuch(incidents(12), x -> x.incident(12, 0));
    }

    @Says(promise = 27, value = "Throws `IllegalArgumentException` if what is out of range")
    static void p27_whatOutOfRange() {
        outOfRange(EdgesOfDuty::pagedTwo, x -> x.incident(0, -1), x -> x.incident(0, 6), x -> x.incident(0, LEAST),
                x -> x.incident(0, GREATEST));
    }

    @Says(promise = 27, value = SEVERAL)
    static void p27_firstOfSeveral() {
        noSuch(EdgesOfDuty::pagedTwo, x -> x.incident(1, 6), x -> x.incident(-1, -1));
    }

    @Says(promise = 27, value = UNCHANGED)
    static void p27_refusedChangesNothing() {
        RolloutHall x = hall(EdgesOfDuty::pagedTwo);
        Check.outOfRange("what 6", () -> x.incident(0, 6));
        Check.noSuch("no incident 1", () -> x.incident(1, 0));
        expect(x, 0, 0, 1, 1, -1, 0);
    }

    // ---- promise 28: pass

    @Says(promise = 28, value = "Lets minutes pass, and people be paged.")
    static void p28_minutesPassAndPeopleArePaged() {
        RolloutHall x = hall(people(2), services(1), y -> y.alert(0, 0));
        due("the minute", x.pass(10), 10);
        due("who was paged", lastPaged(x, 0), 1);
    }

    @Says(promise = 28, value = PAGED)
    static void p28_tenMinutesLaterAndSoOn() {
        RolloutHall x = hall(people(3), services(2), passed(3), y -> y.alert(0, 0));
        for (int page = 0; page < 8; page++) {
            due("at " + 10 * page, lastPaged(x, 0), page % 3);
            x.pass(9);
            due("9 minutes later", lastPaged(x, 0), page % 3);
            x.pass(1);
        }
    }

    @Says(promise = 28, value = "the next person by numbers, round and round, is paged 10 minutes later, and so on.")
    static void p28_severalPagesInOnePass() {
        for (int minutes = 1; minutes <= 600; minutes += 7) {
            RolloutHall x = hall(people(5), services(1), y -> y.standIn(0, 3), y -> y.alert(0, 0), passed(minutes));
            due("after " + minutes, lastPaged(x, 0), (3 + minutes / 10) % 5);
            due("how many people", x.take(0, 3), Math.min(5, 1 + minutes / 10));
        }
        RolloutHall x = hall(people(4), services(1), y -> y.alert(0, 0), passed(9999));
        due("all the time", lastPaged(x, 0), 999 % 4);
    }

    @Says(promise = 28, value = "round and round")
    static void p28_fromTheLastPersonToTheFirst() {
        RolloutHall x = hall(people(5), services(1), y -> y.standIn(0, 4), y -> y.alert(0, 0));
        due("the last one", lastPaged(x, 0), 4);
        x.pass(10);
        due("the first one", lastPaged(x, 0), 0);
        RolloutHall y = hall(services(1), z -> z.alert(0, 0), passed(10));
        due("of one person", lastPaged(y, 0), 0);
        y.person();
        y.pass(10);
        due("a new one is the next one", lastPaged(y, 0), 1);
        y.person();
        y.pass(10);
        due("and another one", lastPaged(y, 0), 2);
        y.pass(10);
        due("round", lastPaged(y, 0), 0);
    }

    @Says(promise = 28, value = "as long as it is not taken")
    static void p28_eachIncidentByItsOwnTime() {
        RolloutHall x = hall(people(3), services(3), y -> y.alert(0, 0), passed(5), y -> y.alert(1, 0), passed(4),
                y -> y.alert(2, 0), y -> y.take(2, 0), passed(1));
        due("the first one at 10", lastPaged(x, 0), 1);
        due("the second one at 10", lastPaged(x, 1), 0);
        x.pass(5);
        due("the first one at 15", lastPaged(x, 0), 1);
        due("the second one at 15", lastPaged(x, 1), 1);
        x.pass(4);
        due("the third one is taken", lastPaged(x, 2), 0);
        x.alert(0, 3);
        x.pass(1);
        due("an alert more changes no time", lastPaged(x, 0), 2);
    }

    @Says(promise = 28, value = "When an incident is opened, who is on duty is paged")
    static void p28_turnsMatterAtTheOpeningAlone() {
        RolloutHall x = hall(people(3), services(1), passed(475), y -> y.alert(0, 0), y -> y.standIn(1, 0), passed(10));
        due("the next one by numbers", lastPaged(x, 0), 1);
        x.pass(10);
        due("and so on", lastPaged(x, 0), 2);
    }

    @Says(promise = 28, value = "`minutes`: 1 to 600")
    static void p28_minutesSmallestAndGreatest() {
        due("1", new RolloutHall().pass(1), 1);
        due("600", new RolloutHall().pass(600), 600);
    }

    @Says(promise = 28, value = "Returns the minute then.")
    static void p28_fromOneTo9999() {
        RolloutHall x = new RolloutHall();
        for (int minute = 600; minute <= 9600; minute += 600) {
            due("pass()", x.pass(600), minute);
        }
        due("the last minute", x.pass(399), 9999);
    }

    @Says(promise = 28, value = "Throws `IllegalArgumentException` if minutes is out of range")
    static void p28_minutesOutOfRange() {
        outOfRange(NOTHING, x -> x.pass(0), x -> x.pass(601), x -> x.pass(-1), x -> x.pass(LEAST), x -> x.pass(GREATEST));
    }

    @Says(promise = 28, value = "Throws `IllegalStateException` if it would be above 9999")
    static void p28_aboveTheLastMinute() {
        due("9999", hall(passed(9600)).pass(399), 9999);
        notNow(passed(9600), x -> x.pass(400), x -> x.pass(600));
        notNow(passed(9999), x -> x.pass(1), x -> x.pass(600));
        due("9998 and 1", hall(passed(9998)).pass(1), 9999);
        notNow(passed(9998), x -> x.pass(2));
    }

    @Says(promise = 28, value = SEVERAL)
    static void p28_firstOfSeveral() {
        outOfRange(passed(9999), x -> x.pass(601), x -> x.pass(0), x -> x.pass(GREATEST), x -> x.pass(-1));
    }

    @Says(promise = 28, value = UNCHANGED)
    static void p28_refusedChangesNothing() {
        RolloutHall x = hall(people(2), services(1), passed(9985), y -> y.alert(0, 0));
        due("who is paged", lastPaged(x, 0), 0);
        Check.notNow("10000", () -> x.pass(15));
        Check.outOfRange("601", () -> x.pass(601));
        Check.outOfRange("0", () -> x.pass(0));
        due("nobody else was", lastPaged(x, 0), 0);
        due("the minute", x.pass(9), 9994);
        due("nobody else was", lastPaged(x, 0), 0);
        due("the minute", x.pass(1), 9995);
        due("the next one is", lastPaged(x, 0), 1);
    }
}
