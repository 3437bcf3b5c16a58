/** The boundaries of the promises 10 to 18: the facts and the horizon. */
public final class BoundaryFactsTest {
    private static final int LEAST = Boundary.LEAST;
    private static final int MOST = Boundary.MOST;

    // The facts of Ledgers.past(), by their numbers.
    private static final int[] VALUES = {7, 7, 7, 8, 8, 7, 9};
    private static final int[] FROMS = {10, 10, 20, 15, 15, 25, 10};
    private static final int[] TOS = {30, 15, 30, 20, 18, 30, 15};
    private static final int[] OPENINGS = {1, 2, 2, 2, 3, 3, 4};
    private static final int[] CLOSINGS = {2, 4, 3, 3, -1, -1, -1};

    private BoundaryFactsTest() {
    }

    public static void main(String[] args) {
        factCount();
        openCount();
        aFact("12", (ledger, fact) -> ledger.factValue(fact), VALUES);
        aFact("13", (ledger, fact) -> ledger.factFrom(fact), FROMS);
        aFact("14", (ledger, fact) -> ledger.factTo(fact), TOS);
        aFact("15", (ledger, fact) -> ledger.openedAt(fact), OPENINGS);
        aFact("16", (ledger, fact) -> ledger.closedAt(fact), CLOSINGS);
        theLastFactOfMost("12", (ledger, fact) -> ledger.factValue(fact), 60);
        theLastFactOfMost("13", (ledger, fact) -> ledger.factFrom(fact), 45);
        theLastFactOfMost("14", (ledger, fact) -> ledger.factTo(fact), 55);
        theLastFactOfMost("15", (ledger, fact) -> ledger.openedAt(fact), 60);
        theLastFactOfMost("16", (ledger, fact) -> ledger.closedAt(fact), -1);
        factValue();
        factDays();
        openedAt();
        closedAt();
        purgeRange();
        purgeAnswer();
        purgeSides();
        purgeThenMore();
        horizon();
        Boundary.end();
    }

    private static void factCount() {
        int[] kept = {7, 7, 6, 4, 3};
        for (int tick = 0; tick < kept.length; tick++) {
            Boundary.answers("10 facts not purged, purged to " + tick, kept[tick],
                    Ledgers.pastPurgedTo(tick), ledger -> ledger.factCount());
        }
        Boundary.answers("10 no facts", 0, Ledgers.entities(6), ledger -> ledger.factCount());
        Boundary.answers("10 open and closed", 60, Ledgers.operations(60),
                ledger -> ledger.factCount());
        Boundary.answers("10 the last one alone", 1,
                Ledgers.operations(60).then(ledger -> ledger.purge(60)),
                ledger -> ledger.factCount());
        Boundary.does("10 as many facts as 60 operations can open", 178, mostFacts(),
                ledger -> ledger.factCount());
        Boundary.does("10 three facts of an operation", 10,
                Ledgers.past().then(ledger -> ledger.tell(0, 1, 1, 26, 27)),
                ledger -> ledger.factCount());
    }

    private static void openCount() {
        for (int tick = 0; tick <= 4; tick++) {
            Boundary.answers("11 a purge leaves open facts, purged to " + tick, 3,
                    Ledgers.pastPurgedTo(tick), ledger -> ledger.openCount());
        }
        Boundary.answers("11 no facts", 0, Ledgers.entities(6), ledger -> ledger.openCount());
        Boundary.answers("11 one of sixty", 1, Ledgers.operations(60),
                ledger -> ledger.openCount());
        Boundary.answers("11 none is left open", 0,
                Ledgers.past().then(ledger -> ledger.retract(0, 1, 0, 100)),
                ledger -> ledger.openCount());
        // Cut before the days 1 to 29, 45, 55 and 71 to 99.
        Boundary.does("11 all that are not closed, of most facts", 61, mostFacts(),
                ledger -> ledger.openCount());
        Boundary.answers("11 of all attributes and entities", 4, Ledgers.corners(),
                ledger -> ledger.openCount());
    }

    /** Each fact of Ledgers.past(), the first number that is none, and the purged ones. */
    private static void aFact(String promise, Boundary.NumberQuestion question, int[] due) {
        for (int fact = 0; fact < due.length; fact++) {
            int number = fact;
            Boundary.answers(promise + " fact " + fact, due[fact], Ledgers.past(),
                    ledger -> question.of(ledger, number));
        }
        for (int fact : new int[] {LEAST, -7, -1, 7, 8, 179, 180, 181, MOST}) {
            Boundary.refuses(promise + " no fact " + fact, Boundary.ELEMENT, Ledgers.past(),
                    ledger -> question.of(ledger, fact));
        }
        Boundary.refuses(promise + " no fact 0 yet", Boundary.ELEMENT, Ledgers.entities(1),
                ledger -> question.of(ledger, 0));
        for (int tick = 0; tick <= 4; tick++) {
            for (int fact = 0; fact < due.length; fact++) {
                int number = fact;
                boolean purged = CLOSINGS[fact] != -1 && CLOSINGS[fact] <= tick;
                Boundary.asks(promise + " fact " + fact + " purged to " + tick,
                        purged ? Boundary.ELEMENT : due[fact], Ledgers.pastPurgedTo(tick),
                        ledger -> question.of(ledger, number));
            }
        }
        Boundary.refuses(promise + " no fact 7 after a purge", Boundary.ELEMENT,
                Ledgers.pastPurgedTo(4), ledger -> question.of(ledger, 7));
    }

    /**
     * The first operation opens one fact; each further one cuts a fact at its first day and one at
     * its last day and so opens three, more than which no operation can: 178 facts.
     */
    private static Ledgers.Calls mostFacts() {
        return Ledgers.entities(1).then(ledger -> {
            ledger.tell(0, 0, 1, 0, 100);
            for (int tick = 2; tick <= 60; tick++) {
                int first = tick % 2 == 0 ? 45 : tick / 2;
                ledger.tell(0, 0, tick, first, 100 - first);
            }
        });
    }

    private static void theLastFactOfMost(String promise, Boundary.NumberQuestion question,
            int due) {
        Boundary.does(promise + " the last fact of most", due, mostFacts(),
                ledger -> question.of(ledger, 177));
        Boundary.does(promise + " no fact after it", Boundary.ELEMENT.getName(), mostFacts(),
                ledger -> Check.outcome(() -> question.of(ledger, 178)));
    }

    private static void factValue() {
        for (int value : new int[] {LEAST, -1, 0, 1, MOST}) {
            Boundary.answers("12 any value", value,
                    Ledgers.past().then(ledger -> ledger.tell(1, 2, value, 0, 1)),
                    ledger -> ledger.factValue(7));
        }
    }

    private static void factDays() {
        int[][] days = {{0, 1}, {0, 100}, {99, 100}};
        for (int[] row : days) {
            Ledgers.Calls calls = Ledgers.past().then(
                    ledger -> ledger.tell(1, 2, 1, row[0], row[1]));
            Boundary.answers("13 the first day", row[0], calls, ledger -> ledger.factFrom(7));
            Boundary.answers("14 the day after the last", row[1], calls,
                    ledger -> ledger.factTo(7));
        }
    }

    private static void openedAt() {
        Boundary.answers("15 tick 1", 1, Ledgers.operations(60), ledger -> ledger.openedAt(0));
        Boundary.answers("15 tick 60", 60, Ledgers.operations(60), ledger -> ledger.openedAt(59));
    }

    private static void closedAt() {
        Boundary.answers("16 NONE is -1", -1, Ledgers.past(), ledger -> FactLedger.NONE);
        Boundary.answers("16 open", FactLedger.NONE, Ledgers.operations(60),
                ledger -> ledger.closedAt(59));
        Boundary.answers("16 closed in the last tick", 60, Ledgers.operations(60),
                ledger -> ledger.closedAt(58));
        Boundary.answers("16 closed in the first tick that can close", 2, Ledgers.operations(60),
                ledger -> ledger.closedAt(0));
    }

    private static void purgeRange() {
        for (int horizon = 0; horizon <= 4; horizon++) {
            for (int tick = -1; tick <= 5; tick++) {
                purgeFromTo(horizon, tick);
            }
            for (int tick : new int[] {LEAST, 60, 61, MOST}) {
                purgeFromTo(horizon, tick);
            }
        }
        Boundary.does("17 tick 0 of clock 0", "0 0", Ledgers.entities(1),
                ledger -> ledger.purge(0) + " " + ledger.horizon());
        for (int tick : new int[] {-1, 1}) {
            Boundary.refuses("17 tick " + tick + " of clock 0", Boundary.ARGUMENT,
                    Ledgers.entities(1), ledger -> ledger.purge(tick));
        }
        Boundary.does("17 tick 60 of clock 60", "59 60", Ledgers.operations(60),
                ledger -> ledger.purge(60) + " " + ledger.horizon());
        Boundary.refuses("17 tick 61 of clock 60", Boundary.ARGUMENT, Ledgers.operations(60),
                ledger -> ledger.purge(61));
    }

    /** The tick is from the horizon to the clock, which is 4. */
    private static void purgeFromTo(int horizon, int tick) {
        String sentence = "17 tick " + tick + " of horizon " + horizon + " and clock 4";
        if (tick < horizon || tick > 4) {
            Boundary.refuses(sentence, Boundary.ARGUMENT, Ledgers.pastPurgedTo(horizon),
                    ledger -> ledger.purge(tick));
            return;
        }
        int removed = closedUpTo(tick) - closedUpTo(horizon);
        Boundary.does(sentence, removed + " " + tick, Ledgers.pastPurgedTo(horizon),
                ledger -> ledger.purge(tick) + " " + ledger.horizon());
    }

    private static int closedUpTo(int tick) {
        int[] closed = {0, 0, 1, 3, 4};
        return closed[tick];
    }

    private static void purgeAnswer() {
        int[] removed = {0, 0, 1, 3, 4};
        for (int tick = 0; tick < removed.length; tick++) {
            int at = tick;
            Boundary.does("17 the number of facts removed to " + tick,
                    removed[tick] + " " + (7 - removed[tick]), Ledgers.past(),
                    ledger -> ledger.purge(at) + " " + ledger.factCount());
        }
        Boundary.does("17 of most facts", "117 61", mostFacts(),
                ledger -> ledger.purge(60) + " " + ledger.factCount());
        Boundary.does("17 of all entities", 2, Ledgers.corners().then(ledger -> {
            ledger.retract(0, 0, 0, 100);
            ledger.retract(1, 2, 0, 100);
        }), ledger -> ledger.purge(6));
    }

    private static void purgeSides() {
        // Fact 57 is closed in tick 59, fact 58 in tick 60, fact 59 is open.
        Ledgers.Calls purged = Ledgers.operations(60).then(ledger -> ledger.purge(59));
        Boundary.refuses("17 closed in the tick: removed", Boundary.ELEMENT, purged,
                ledger -> ledger.closedAt(57));
        Boundary.refuses("17 closed earlier: removed", Boundary.ELEMENT, purged,
                ledger -> ledger.closedAt(0));
        Boundary.answers("17 closed in the next tick: kept", 60, purged,
                ledger -> ledger.closedAt(58));
        Boundary.answers("17 open: kept", -1, purged, ledger -> ledger.closedAt(59));
        Boundary.answers("17 two facts are left", 2, purged, ledger -> ledger.factCount());
        Boundary.answers("17 what is known as of the tick stays", 59, purged,
                ledger -> ledger.valueAt(0, 1, 10, 59));
        Boundary.answers("17 also by replay", 59, purged,
                ledger -> ledger.valueByReplay(0, 1, 10, 59));
        Boundary.refuses("17 the tick before cannot be asked for", Boundary.HORIZON, purged,
                ledger -> ledger.valueAt(0, 1, 10, 58));
        Boundary.answers("17 the line stays", "10-15=9 15-18=8 25-30=7", Ledgers.pastPurgedTo(4),
                ledger -> Ledgers.line(ledger));
    }

    private static void purgeThenMore() {
        Ledgers.Calls more = Ledgers.pastPurgedTo(4).then(ledger -> ledger.tell(0, 1, 1, 12, 13));
        Boundary.answers("17 the next fact has the next number, not a purged one", "9:10-12@5/-1",
                more, ledger -> Ledgers.fact(ledger, 7));
        Boundary.answers("17 a fact that is closed after the purge is kept", "9:10-15@4/5", more,
                ledger -> Ledgers.fact(ledger, 6));
        Boundary.refuses("17 a purged fact stays purged", Boundary.ELEMENT, more,
                ledger -> ledger.factValue(3));
        Boundary.does("17 a second purge removes what was closed since", "1 5", more,
                ledger -> ledger.purge(5) + " " + ledger.horizon());
        Boundary.does("17 the same purge again removes nothing", 0,
                more.then(ledger -> ledger.purge(5)), ledger -> ledger.purge(5));
        Boundary.does("17 a retraction and a correction after a purge", "3 5 true",
                Ledgers.pastPurgedTo(4), ledger -> ledger.retract(0, 1, 15, 20) + " "
                        + ledger.correct(0, 1, 29, 3) + " " + ledger.isConsistent());
    }

    private static void horizon() {
        Boundary.answers("18 0 at first", 0, Ledgers.entities(0), ledger -> ledger.horizon());
        Boundary.answers("18 operations leave it", 0, Ledgers.operations(60),
                ledger -> ledger.horizon());
        for (int tick = 0; tick <= 4; tick++) {
            Boundary.answers("18 purged to " + tick, tick, Ledgers.pastPurgedTo(tick),
                    ledger -> ledger.horizon());
        }
        Boundary.answers("18 60", 60, Ledgers.operations(60).then(ledger -> ledger.purge(60)),
                ledger -> ledger.horizon());
        Boundary.answers("18 operations after a purge leave it", 4,
                Ledgers.pastPurgedTo(4).then(ledger -> ledger.tell(0, 1, 1, 12, 13)),
                ledger -> ledger.horizon());
    }
}
