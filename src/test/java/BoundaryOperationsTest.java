/** The boundaries of the promises 1 to 9: the new object and the operations. */
public final class BoundaryOperationsTest {
    private static final int LEAST = Boundary.LEAST;
    private static final int MOST = Boundary.MOST;

    private BoundaryOperationsTest() {
    }

    public static void main(String[] args) {
        newObject();
        addEntity();
        entityCount();
        tellWhere();
        tellDays();
        tellAnswer();
        tellAfterSixty();
        tellOrder();
        retractWhere();
        retractDays();
        retractAnswer();
        retractUnknown();
        retractAfterSixty();
        retractOrder();
        correctWhere();
        correctDays();
        correctAnswer();
        correctUnknown();
        correctAfterSixty();
        correctOrder();
        clock();
        operationAt();
        entityOf();
        Boundary.end();
    }

    private static void newObject() {
        Ledgers.Calls none = Ledgers.entities(0);
        Boundary.answers("1 without entities", 0, none, ledger -> ledger.entityCount());
        Boundary.answers("1 without facts", 0, none, ledger -> ledger.factCount());
        Boundary.answers("1 without open facts", 0, none, ledger -> ledger.openCount());
        Boundary.answers("1 the clock", 0, none, ledger -> ledger.clock());
        Boundary.answers("1 the horizon", 0, none, ledger -> ledger.horizon());
        Boundary.answers("1 a total over no entity", 0, none, ledger -> ledger.total(0, 0, 0));
        Boundary.answers("1 consistent", true, none, ledger -> ledger.isConsistent());
        Boundary.refuses("1 no mean over no entity", Boundary.ARITHMETIC, none,
                ledger -> ledger.meanValue(0, 0, 0));
        Boundary.refuses("1 no entity 0 to tell of", Boundary.INDEX, none,
                ledger -> ledger.tell(0, 0, 1, 0, 1));
        Boundary.refuses("1 no fact 0", Boundary.ELEMENT, none, ledger -> ledger.factValue(0));
        Boundary.refuses("1 no character 0", Boundary.INDEX, none, ledger -> ledger.lineAt(0));
        Boundary.does("1 an object knows nothing of another one", "0 0 0", none, ledger -> {
            Ledgers.led(Ledgers.past());
            return ledger.entityCount() + " " + ledger.clock() + " " + ledger.factCount();
        });
    }

    private static void addEntity() {
        for (int number = 0; number < 6; number++) {
            Boundary.does("2 the number of the entity", number, Ledgers.entities(number),
                    ledger -> ledger.addEntity());
        }
        Boundary.refuses("2 there are 6 entities", Boundary.STATE, Ledgers.entities(6),
                ledger -> ledger.addEntity());
        Boundary.refuses("2 there are 6 entities, again", Boundary.STATE,
                Ledgers.entities(6).then(ledger -> Check.outcome(() -> ledger.addEntity())),
                ledger -> ledger.addEntity());
        Ledgers.Calls late = Ledgers.operations(60);
        Boundary.does("2 after 60 operations", 2, late, ledger -> ledger.addEntity());
        Boundary.does("2 nothing is known about the new one", 0,
                late.then(ledger -> ledger.addEntity()), ledger -> ledger.knownDays(2, 1, 60));
        Boundary.does("2 it has an attribute 0 at once", false,
                Ledgers.past().then(ledger -> ledger.addEntity()),
                ledger -> ledger.isKnown(2, 0, 0, 4));
    }

    private static void entityCount() {
        for (int number = 0; number <= 6; number++) {
            Boundary.answers("3 the number of entities", number, Ledgers.entities(number),
                    ledger -> ledger.entityCount());
        }
        Boundary.does("3 a refused addEntity does not count", 6, Ledgers.entities(6), ledger -> {
            Check.outcome(() -> ledger.addEntity());
            return ledger.entityCount();
        });
    }

    private static void tellWhere() {
        Boundary.attributesRefused("4 tell",
                (ledger, entity, attribute) -> ledger.tell(entity, attribute, 1, 0, 100));
        int[][] allowed = {{0, 0}, {0, 2}, {1, 0}, {1, 2}};
        for (int[] row : allowed) {
            Boundary.does("4 tell of the attribute " + row[1] + " of the entity " + row[0], "1 1",
                    Ledgers.corners(), ledger -> {
                        int closed = ledger.tell(row[0], row[1], 1, 0, 100);
                        return closed + " " + ledger.valueAt(row[0], row[1], 0, 5);
                    });
        }
        Boundary.does("4 an attribute of which nothing is known", 0, Ledgers.corners(),
                ledger -> ledger.tell(1, 1, 1, 0, 100));
        Boundary.does("4 entity 5 of 6", 0, Ledgers.entities(6),
                ledger -> ledger.tell(5, 2, 1, 0, 100));
        for (int value : new int[] {LEAST, LEAST + 1, -1, 0, 1, MOST - 1, MOST}) {
            Boundary.does("4 any value", value, Ledgers.past(), ledger -> {
                ledger.tell(0, 1, value, 99, 100);
                return ledger.valueAt(0, 1, 99, 5);
            });
        }
    }

    private static void tellDays() {
        int[][] allowed = {{0, 1}, {0, 100}, {99, 100}, {98, 99}, {50, 51}};
        for (int[] row : allowed) {
            Boundary.does("4 the days " + row[0] + " to " + row[1],
                    row[0] + "-" + row[1] + "=3", Ledgers.past(), ledger -> {
                        ledger.tell(1, 1, 3, row[0], row[1]);
                        return Ledgers.written(ledger, 1, 1, 5);
                    });
        }
        for (int[] row : wrongDays()) {
            Boundary.refuses("4 the days " + row[0] + " to " + row[1], Boundary.ARGUMENT,
                    Ledgers.past(), ledger -> ledger.tell(0, 1, 3, row[0], row[1]));
        }
    }

    /** The first day too small, the day after the last not greater than it, or above 100. */
    private static int[][] wrongDays() {
        return new int[][] {{-1, 0}, {-1, 1}, {-1, 100}, {LEAST, 5}, {LEAST, MOST}, {LEAST, LEAST},
            {0, 0}, {12, 12}, {99, 99}, {100, 100}, {13, 12}, {1, 0}, {100, 99}, {0, -1},
            {0, 101}, {99, 101}, {100, 101}, {0, MOST}, {MOST, MOST}, {MOST, LEAST}, {12, LEAST}};
    }

    private static void tellAnswer() {
        int[][] due = {{0, 10, 0}, {0, 11, 1}, {14, 15, 1}, {14, 16, 2}, {17, 18, 1}, {18, 25, 0},
            {18, 26, 1}, {14, 25, 2}, {14, 26, 3}, {0, 100, 3}, {29, 30, 1}, {30, 100, 0}};
        for (int[] row : due) {
            Boundary.does("4 the facts closed by the days " + row[0] + " to " + row[1], row[2],
                    Ledgers.past(), ledger -> ledger.tell(0, 1, 1, row[0], row[1]));
        }
    }

    private static void tellAfterSixty() {
        Boundary.does("4 the sixtieth operation", "1 60", Ledgers.operations(59), ledger -> {
            int closed = ledger.tell(0, 1, 7, 10, 20);
            return closed + " " + ledger.clock();
        });
        Boundary.refuses("4 there have been 60 operations", Boundary.STATE,
                Ledgers.operations(60), ledger -> ledger.tell(0, 1, 7, 10, 20));
        Boundary.refuses("4 also for another entity", Boundary.STATE, Ledgers.operations(60),
                ledger -> ledger.tell(1, 2, 7, 0, 100));
        Boundary.refuses("4 a purge makes no room", Boundary.STATE,
                Ledgers.operations(60).then(ledger -> ledger.purge(60)),
                ledger -> ledger.tell(0, 1, 7, 10, 20));
        Boundary.does("4 refused calls take no room", 60, Ledgers.operations(59), ledger -> {
            Check.outcome(() -> ledger.tell(0, 3, 7, 10, 20));
            Check.outcome(() -> ledger.tell(0, 1, 7, 10, 10));
            ledger.tell(0, 1, 7, 10, 20);
            return ledger.clock();
        });
    }

    private static void tellOrder() {
        Boundary.refuses("4 no entity before the days", Boundary.INDEX, Ledgers.past(),
                ledger -> ledger.tell(2, 1, 7, 12, 12));
        Boundary.refuses("4 no attribute before the days", Boundary.INDEX, Ledgers.past(),
                ledger -> ledger.tell(0, 3, 7, -1, 101));
        Boundary.refuses("4 no entity before 60 operations", Boundary.INDEX,
                Ledgers.operations(60), ledger -> ledger.tell(-1, 1, 7, 12, 13));
        Boundary.refuses("4 no attribute before 60 operations", Boundary.INDEX,
                Ledgers.operations(60), ledger -> ledger.tell(0, -1, 7, 12, 13));
        Boundary.refuses("4 the days before 60 operations", Boundary.ARGUMENT,
                Ledgers.operations(60), ledger -> ledger.tell(0, 1, 7, 0, 101));
        Boundary.refuses("4 all three", Boundary.INDEX, Ledgers.operations(60),
                ledger -> ledger.tell(2, 3, 7, 0, 101));
    }

    private static void retractWhere() {
        Boundary.attributesRefused("5 retract",
                (ledger, entity, attribute) -> ledger.retract(entity, attribute, 0, 100));
        int[][] due = {{0, 0, 100}, {0, 2, 91}, {1, 0, 90}, {1, 2, 81}};
        for (int[] row : due) {
            Boundary.does("5 retract the attribute " + row[1] + " of the entity " + row[0],
                    row[2] + " 0", Ledgers.corners(), ledger -> {
                        int days = ledger.retract(row[0], row[1], 0, 100);
                        return days + " " + ledger.knownDays(row[0], row[1], 5);
                    });
        }
        Boundary.does("5 entity 5 of 6", 1,
                Ledgers.entities(6).then(ledger -> ledger.tell(5, 2, 1, 99, 100)),
                ledger -> ledger.retract(5, 2, 0, 100));
    }

    private static void retractDays() {
        int[][] allowed = {{0, 1, 1}, {0, 100, 100}, {99, 100, 1}, {98, 99, 1}};
        for (int[] row : allowed) {
            Boundary.does("5 the days " + row[0] + " to " + row[1], row[2], Ledgers.corners(),
                    ledger -> ledger.retract(0, 0, row[0], row[1]));
        }
        for (int[] row : wrongDays()) {
            Boundary.refuses("5 the days " + row[0] + " to " + row[1], Boundary.ARGUMENT,
                    Ledgers.corners(), ledger -> ledger.retract(0, 0, row[0], row[1]));
        }
    }

    private static void retractAnswer() {
        int[][] due = {{0, 11, 1}, {10, 11, 1}, {0, 100, 13}, {14, 16, 2}, {17, 26, 2},
            {15, 18, 3}, {18, 26, 1}, {25, 30, 5}, {29, 31, 1}, {29, 100, 1}};
        for (int[] row : due) {
            Boundary.does("5 the days not known any more of " + row[0] + " to " + row[1],
                    row[2] + " " + (13 - row[2]), Ledgers.past(), ledger -> {
                        int days = ledger.retract(0, 1, row[0], row[1]);
                        return days + " " + ledger.knownDays(0, 1, 5);
                    });
        }
    }

    private static void retractUnknown() {
        int[][] unknown = {{0, 10}, {9, 10}, {18, 25}, {24, 25}, {30, 31}, {30, 100}};
        for (int[] row : unknown) {
            Boundary.refuses("5 nothing known on " + row[0] + " to " + row[1], Boundary.ELEMENT,
                    Ledgers.past(), ledger -> ledger.retract(0, 1, row[0], row[1]));
        }
        Boundary.refuses("5 nothing known of the attribute", Boundary.ELEMENT, Ledgers.past(),
                ledger -> ledger.retract(0, 2, 0, 100));
        Boundary.refuses("5 nothing known of the entity", Boundary.ELEMENT, Ledgers.past(),
                ledger -> ledger.retract(1, 1, 0, 100));
        Boundary.refuses("5 retracted before", Boundary.ELEMENT,
                Ledgers.past().then(ledger -> ledger.retract(0, 1, 12, 13)),
                ledger -> ledger.retract(0, 1, 12, 13));
        Boundary.does("5 beside the days retracted before", 1,
                Ledgers.past().then(ledger -> ledger.retract(0, 1, 12, 13)),
                ledger -> ledger.retract(0, 1, 12, 14));
    }

    private static void retractAfterSixty() {
        Boundary.does("5 the sixtieth operation", "10 60", Ledgers.operations(59), ledger -> {
            int days = ledger.retract(0, 1, 0, 100);
            return days + " " + ledger.clock();
        });
        Boundary.refuses("5 there have been 60 operations", Boundary.STATE,
                Ledgers.operations(60), ledger -> ledger.retract(0, 1, 10, 20));
        Boundary.refuses("5 also for one day", Boundary.STATE, Ledgers.operations(60),
                ledger -> ledger.retract(0, 1, 19, 100));
    }

    private static void retractOrder() {
        Boundary.refuses("5 no entity before the days", Boundary.INDEX, Ledgers.past(),
                ledger -> ledger.retract(2, 1, 12, 12));
        Boundary.refuses("5 no attribute before the days", Boundary.INDEX, Ledgers.past(),
                ledger -> ledger.retract(0, 3, 12, 101));
        Boundary.refuses("5 no entity before 60 operations", Boundary.INDEX,
                Ledgers.operations(60), ledger -> ledger.retract(2, 1, 10, 20));
        Boundary.refuses("5 the days before nothing known", Boundary.ARGUMENT, Ledgers.past(),
                ledger -> ledger.retract(0, 1, 30, 101));
        Boundary.refuses("5 the days before 60 operations", Boundary.ARGUMENT,
                Ledgers.operations(60), ledger -> ledger.retract(0, 1, 12, 12));
        Boundary.refuses("5 nothing known before 60 operations", Boundary.ELEMENT,
                Ledgers.operations(60), ledger -> ledger.retract(0, 1, 20, 100));
        Boundary.refuses("5 nothing known of the entity before 60 operations", Boundary.ELEMENT,
                Ledgers.operations(60), ledger -> ledger.retract(1, 1, 10, 20));
    }

    private static void correctWhere() {
        Boundary.attributesRefused("6 correct",
                (ledger, entity, attribute) -> ledger.correct(entity, attribute, 50, 1));
        int[][] due = {{0, 0, 100}, {0, 2, 91}, {1, 0, 90}, {1, 2, 81}};
        for (int[] row : due) {
            Boundary.does("6 correct the attribute " + row[1] + " of the entity " + row[0],
                    row[2] + " 1", Ledgers.corners(), ledger -> {
                        int days = ledger.correct(row[0], row[1], 50, 1);
                        return days + " " + ledger.valueAt(row[0], row[1], 50, 5);
                    });
        }
        for (int value : new int[] {LEAST, -1, 0, 10, MOST}) {
            Boundary.does("6 the new value", "100 " + value, Ledgers.corners(), ledger -> {
                int days = ledger.correct(0, 0, 99, value);
                return days + " " + ledger.valueAt(0, 0, 0, 5);
            });
        }
    }

    private static void correctDays() {
        Boundary.does("6 day 0", 100, Ledgers.corners(), ledger -> ledger.correct(0, 0, 0, 1));
        Boundary.does("6 day 99", 100, Ledgers.corners(), ledger -> ledger.correct(0, 0, 99, 1));
        for (int day : new int[] {LEAST, -100, -1, 100, 101, MOST}) {
            Boundary.refuses("6 no day " + day, Boundary.ARGUMENT, Ledgers.corners(),
                    ledger -> ledger.correct(0, 0, day, 1));
        }
    }

    private static void correctAnswer() {
        int[][] due = {{10, 5}, {14, 5}, {15, 3}, {17, 3}, {25, 5}, {29, 5}};
        for (int[] row : due) {
            Boundary.does("6 the days of the fact of day " + row[0], row[1] + " 13",
                    Ledgers.past(), ledger -> {
                        int days = ledger.correct(0, 1, row[0], 1);
                        return days + " " + ledger.knownDays(0, 1, 5);
                    });
        }
        Boundary.does("6 a fact of one day", 1,
                Ledgers.past().then(ledger -> ledger.tell(0, 1, 3, 16, 17)),
                ledger -> ledger.correct(0, 1, 16, 4));
    }

    private static void correctUnknown() {
        for (int day : new int[] {0, 9, 18, 24, 30, 99}) {
            Boundary.refuses("6 nothing known on day " + day, Boundary.ELEMENT, Ledgers.past(),
                    ledger -> ledger.correct(0, 1, day, 1));
        }
        Boundary.refuses("6 nothing known of the attribute", Boundary.ELEMENT, Ledgers.past(),
                ledger -> ledger.correct(0, 0, 12, 1));
        Boundary.refuses("6 nothing known of the entity", Boundary.ELEMENT, Ledgers.past(),
                ledger -> ledger.correct(1, 1, 12, 1));
    }

    private static void correctAfterSixty() {
        Boundary.does("6 the sixtieth operation", "10 60", Ledgers.operations(59), ledger -> {
            int days = ledger.correct(0, 1, 19, 7);
            return days + " " + ledger.clock();
        });
        Boundary.refuses("6 there have been 60 operations", Boundary.STATE,
                Ledgers.operations(60), ledger -> ledger.correct(0, 1, 19, 7));
        Boundary.refuses("6 also for its own value", Boundary.STATE, Ledgers.operations(60),
                ledger -> ledger.correct(0, 1, 10, 60));
    }

    private static void correctOrder() {
        Boundary.refuses("6 no entity before the day", Boundary.INDEX, Ledgers.past(),
                ledger -> ledger.correct(2, 1, 100, 1));
        Boundary.refuses("6 no attribute before the day", Boundary.INDEX, Ledgers.past(),
                ledger -> ledger.correct(0, -1, -1, 1));
        Boundary.refuses("6 no entity before 60 operations", Boundary.INDEX,
                Ledgers.operations(60), ledger -> ledger.correct(2, 1, 12, 1));
        Boundary.refuses("6 the day before 60 operations", Boundary.ARGUMENT,
                Ledgers.operations(60), ledger -> ledger.correct(0, 1, 100, 1));
        Boundary.refuses("6 nothing known before 60 operations", Boundary.ELEMENT,
                Ledgers.operations(60), ledger -> ledger.correct(0, 1, 20, 1));
    }

    private static void clock() {
        for (int number : new int[] {0, 1, 59, 60}) {
            Boundary.answers("7 the number of operations so far", number,
                    Ledgers.operations(number), ledger -> ledger.clock());
        }
        Boundary.answers("7 tellings, a retraction and a correction", 4, Ledgers.past(),
                ledger -> ledger.clock());
        Boundary.answers("7 a purge leaves the clock", 4, Ledgers.pastPurgedTo(4),
                ledger -> ledger.clock());
    }

    private static void operationAt() {
        char[] due = {'t', 't', 'r', 'c'};
        for (int tick = 1; tick <= 4; tick++) {
            int at = tick;
            Boundary.answers("8 the kind of tick " + tick, due[tick - 1], Ledgers.past(),
                    ledger -> ledger.operationAt(at));
            Boundary.answers("8 the kind of tick " + tick + " behind the horizon", due[tick - 1],
                    Ledgers.pastPurgedTo(4), ledger -> ledger.operationAt(at));
        }
        ticksOfOperations("8", (ledger, tick) -> ledger.operationAt(tick), 't');
        Boundary.does("8 the sixtieth can be a retraction", 'r', Ledgers.operations(59),
                ledger -> {
                    ledger.retract(0, 1, 10, 20);
                    return ledger.operationAt(60);
                });
    }

    private static void entityOf() {
        Ledgers.Calls calls = Ledgers.entities(6).then(ledger -> {
            ledger.tell(5, 2, 1, 0, 100);
            ledger.tell(0, 0, 1, 0, 100);
            ledger.retract(5, 2, 0, 100);
            ledger.correct(0, 0, 99, 2);
        });
        int[] due = {5, 0, 5, 0};
        for (int tick = 1; tick <= 4; tick++) {
            int at = tick;
            Boundary.answers("9 the entity of tick " + tick, due[tick - 1], calls,
                    ledger -> ledger.entityOf(at));
        }
        Boundary.answers("9 the last entity in the last tick", 5,
                calls.then(ledger -> ledger.tell(5, 0, 1, 0, 1)), ledger -> ledger.entityOf(5));
        ticksOfOperations("9", (ledger, tick) -> ledger.entityOf(tick), 0);
    }

    /** The ticks of operations are 1 to the clock. */
    private static void ticksOfOperations(String promise, Boundary.NumberQuestion question,
            Object atFirstAndLast) {
        for (int tick : new int[] {LEAST, -1, 0, 5, 60, 61, MOST}) {
            Boundary.refuses(promise + " tick " + tick + " of clock 4", Boundary.ARGUMENT,
                    Ledgers.past(), ledger -> question.of(ledger, tick));
        }
        for (int tick : new int[] {0, 1}) {
            Boundary.refuses(promise + " tick " + tick + " of clock 0", Boundary.ARGUMENT,
                    Ledgers.entities(1), ledger -> question.of(ledger, tick));
        }
        for (int tick : new int[] {1, 60}) {
            Boundary.answers(promise + " tick " + tick + " of clock 60", atFirstAndLast,
                    Ledgers.operations(60), ledger -> question.of(ledger, tick));
        }
        for (int tick : new int[] {0, 61}) {
            Boundary.refuses(promise + " tick " + tick + " of clock 60", Boundary.ARGUMENT,
                    Ledgers.operations(60), ledger -> question.of(ledger, tick));
        }
    }
}
