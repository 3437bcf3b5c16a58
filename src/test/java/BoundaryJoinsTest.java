/** The boundaries of the promises 31 to 39: joins and versions. */
public final class BoundaryJoinsTest {
    private static final int LEAST = Boundary.LEAST;
    private static final int MOST = Boundary.MOST;

    private BoundaryJoinsTest() {
    }

    public static void main(String[] args) {
        joinCount();
        joinFrom();
        joinTo();
        hundredJoins();
        commonDays();
        agreeDays();
        twoOverlaps();
        ordersOfJoins();
        ordersOfJointPeriods();
        versionCount();
        versionTick();
        isVersionKnown();
        versionValue();
        sixtyOneVersions();
        versionsFromTheHorizon();
        oneAfterTheOther();
        ordersOfVersions();
        Boundary.end();
    }

    /** A question about two attributes, and about a tick and an index where it has them. */
    private interface JoinQuestion {
        Object of(FactLedger ledger, int... numbers);
    }

    /** No such entity or attribute, for either: the other one is one that exists. */
    private static void either(String promise, JoinQuestion question, Object[] with00,
            Object[] with12) {
        Boundary.attributes(promise + " the first, with (0, 0)",
                (ledger, e, a) -> question.of(ledger, e, a, 0, 0, 4, 0),
                with00[0], with00[1], with00[2], with00[3]);
        Boundary.attributes(promise + " the other, with (0, 0)",
                (ledger, e, a) -> question.of(ledger, 0, 0, e, a, 4, 0),
                with00[0], with00[1], with00[2], with00[3]);
        Boundary.attributes(promise + " the first, with (1, 2)",
                (ledger, e, a) -> question.of(ledger, e, a, 1, 2, 4, 0),
                with12[0], with12[1], with12[2], with12[3]);
        Boundary.attributes(promise + " the other, with (1, 2)",
                (ledger, e, a) -> question.of(ledger, 1, 2, e, a, 4, 0),
                with12[0], with12[1], with12[2], with12[3]);
        for (int wrong : new int[] {LEAST, -1, 3, MOST}) {
            Boundary.refuses(promise + " both attributes", Boundary.INDEX, Ledgers.corners(),
                    ledger -> question.of(ledger, 0, wrong, 1, wrong, 4, 0));
            Boundary.refuses(promise + " both entities", Boundary.INDEX, Ledgers.corners(),
                    ledger -> question.of(ledger, wrong, 0, wrong, 0, 4, 0));
        }
    }

    private static void joinCount() {
        JoinQuestion question = (ledger, r) -> ledger.joinCount(r[0], r[1], r[2], r[3], r[4]);
        either("31", question, new Object[] {1, 1, 1, 1}, new Object[] {1, 1, 1, 1});
        Boundary.ticks("31", (ledger, tick) -> ledger.joinCount(0, 1, 0, 1, tick), 0, 3, 3, 1);
        Boundary.answers("31 one of them is not known", 0, Ledgers.corners(),
                ledger -> ledger.joinCount(0, 0, 0, 1, 4));
        Boundary.answers("31 none of them is known", 0, Ledgers.corners(),
                ledger -> ledger.joinCount(1, 1, 0, 1, 4));
        Boundary.answers("31 as of the tick before the second", 0, Ledgers.corners(),
                ledger -> ledger.joinCount(0, 0, 1, 2, 3));
    }

    /** As of the tick 6 attribute 0 of entity 0 and 2 of entity 1 have six joint periods. */
    private static Ledgers.Calls sixJoins() {
        return Ledgers.entities(2).then(ledger -> {
            ledger.tell(0, 0, 1, 0, 50);
            ledger.tell(1, 2, 1, 20, 70);
            ledger.tell(1, 2, 2, 40, 45);
            ledger.tell(0, 0, 1, 30, 35);
            ledger.tell(0, 0, 2, 43, 44);
            ledger.retract(1, 2, 25, 30);
        });
    }

    private static void joinFrom() {
        JoinQuestion question = (ledger, r) -> ledger.joinFrom(r[0], r[1], r[2], r[3], r[4], r[5]);
        either("32", question, new Object[] {0, 0, 10, 10}, new Object[] {10, 10, 10, 10});
        Boundary.ticks("32", (ledger, tick) -> ledger.joinFrom(0, 1, 0, 1, tick, 0),
                Boundary.ELEMENT, 10, 10, 10);
        Boundary.indexes("32", sixJoins(), 6,
                (ledger, index) -> ledger.joinFrom(0, 0, 1, 2, 6, index), 20, 45);
        Boundary.indexes("32 the other way", sixJoins(), 6,
                (ledger, index) -> ledger.joinFrom(1, 2, 0, 0, 6, index), 20, 45);
        int[] due = {20, 30, 40, 43, 44, 45};
        for (int index = 0; index < due.length; index++) {
            int asked = index;
            Boundary.answers("32 ordered by days: index " + index, due[index], sixJoins(),
                    ledger -> ledger.joinFrom(0, 0, 1, 2, 6, asked));
        }
        Boundary.refuses("32 no joint period at all", Boundary.ELEMENT, Ledgers.corners(),
                ledger -> ledger.joinFrom(0, 0, 0, 1, 4, 0));
    }

    private static void joinTo() {
        JoinQuestion question = (ledger, r) -> ledger.joinTo(r[0], r[1], r[2], r[3], r[4], r[5]);
        either("33", question, new Object[] {100, 91, 100, 91}, new Object[] {91, 91, 91, 91});
        Boundary.ticks("33", (ledger, tick) -> ledger.joinTo(0, 1, 0, 1, tick, 0),
                Boundary.ELEMENT, 15, 15, 20);
        Boundary.indexes("33", sixJoins(), 6,
                (ledger, index) -> ledger.joinTo(0, 0, 1, 2, 6, index), 25, 50);
        Boundary.indexes("33 the other way", sixJoins(), 6,
                (ledger, index) -> ledger.joinTo(1, 2, 0, 0, 6, index), 25, 50);
        int[] due = {25, 40, 43, 44, 45, 50};
        for (int index = 0; index < due.length; index++) {
            int asked = index;
            Boundary.answers("33 ordered by days: index " + index, due[index], sixJoins(),
                    ledger -> ledger.joinTo(0, 0, 1, 2, 6, asked));
        }
        Boundary.refuses("33 no joint period at all", Boundary.ELEMENT, Ledgers.corners(),
                ledger -> ledger.joinTo(0, 0, 0, 1, 4, 0));
    }

    /** One attribute changes on the even days, the other one on the odd days. */
    private static void hundredJoins() {
        Ledgers.Calls hundred = Ledgers.entities(1).then(ledger -> {
            ledger.tell(0, 0, 1, 0, 100);
            ledger.tell(0, 1, 1, 0, 100);
            for (int day = 0; day < 100; day += 4) {
                ledger.tell(0, 0, 2, day, day + 2);
                ledger.tell(0, 1, 2, day + 1, day + 3);
            }
        });
        Boundary.answers("31 a hundred joint periods", 100, hundred,
                ledger -> ledger.joinCount(0, 0, 0, 1, 52));
        Boundary.answers("31 fifty with itself", 50, hundred,
                ledger -> ledger.joinCount(0, 0, 0, 0, 52));
        Boundary.indexes("32 a hundred joint periods", hundred, 100,
                (ledger, index) -> ledger.joinFrom(0, 0, 0, 1, 52, index), 0, 99);
        Boundary.indexes("33 a hundred joint periods", hundred, 100,
                (ledger, index) -> ledger.joinTo(0, 0, 0, 1, 52, index), 1, 100);
        Boundary.answers("34 a hundred days", 100, hundred,
                ledger -> ledger.commonDays(0, 0, 0, 1, 52));
        Boundary.answers("35 every other day", 50, hundred,
                ledger -> ledger.agreeDays(0, 0, 0, 1, 52));
    }

    private static void commonDays() {
        JoinQuestion question = (ledger, r) -> ledger.commonDays(r[0], r[1], r[2], r[3], r[4]);
        either("34", question, new Object[] {100, 91, 90, 81}, new Object[] {81, 81, 81, 81});
        Boundary.ticks("34", (ledger, tick) -> ledger.commonDays(0, 1, 0, 1, tick), 0, 20, 13, 10);
        Boundary.answers("34 one of them is not known", 0, Ledgers.corners(),
                ledger -> ledger.commonDays(0, 0, 0, 1, 4));
        Boundary.answers("34 as of the tick before the second", 0, Ledgers.corners(),
                ledger -> ledger.commonDays(0, 0, 1, 2, 3));
        Boundary.answers("34 several periods", 25, sixJoins(),
                ledger -> ledger.commonDays(0, 0, 1, 2, 6));
    }

    private static void agreeDays() {
        JoinQuestion question = (ledger, r) -> ledger.agreeDays(r[0], r[1], r[2], r[3], r[4]);
        either("35", question, new Object[] {100, 0, 0, 0}, new Object[] {0, 0, 0, 81});
        Boundary.ticks("35", (ledger, tick) -> ledger.agreeDays(0, 1, 0, 1, tick), 0, 20, 13, 10);
        Boundary.answers("35 neither is known", 0, Ledgers.corners(),
                ledger -> ledger.agreeDays(0, 1, 1, 1, 4));
        Boundary.answers("35 the value 0 and none", 0,
                Ledgers.corners().then(ledger -> ledger.tell(0, 1, 0, 0, 100)),
                ledger -> ledger.agreeDays(0, 1, 1, 1, 5));
        Boundary.answers("35 as of the tick before the second", 0, sixJoins(),
                ledger -> ledger.agreeDays(0, 0, 1, 2, 1));
        Boundary.answers("35 several periods", 21, sixJoins(),
                ledger -> ledger.agreeDays(0, 0, 1, 2, 6));
    }

    /** Attribute 0 is 5 on the days 20 to 29; attribute 1 has a value on some days. */
    private static void twoOverlaps() {
        int[][] due = {{0, 20, 0}, {0, 21, 1}, {19, 20, 0}, {20, 21, 1}, {29, 30, 1}, {30, 31, 0},
            {29, 31, 1}, {20, 30, 10}, {0, 100, 10}};
        for (int[] row : due) {
            Ledgers.Calls same = overlap(5, row[0], row[1]);
            Ledgers.Calls other = overlap(6, row[0], row[1]);
            String sentence = " the days " + row[0] + " to " + row[1];
            Boundary.answers("31" + sentence, row[2] == 0 ? 0 : 1, other,
                    ledger -> ledger.joinCount(0, 0, 0, 1, 2));
            Boundary.answers("34" + sentence, row[2], other,
                    ledger -> ledger.commonDays(0, 0, 0, 1, 2));
            Boundary.answers("35" + sentence, row[2], same,
                    ledger -> ledger.agreeDays(0, 0, 0, 1, 2));
            Boundary.answers("35 other values on" + sentence, 0, other,
                    ledger -> ledger.agreeDays(0, 0, 0, 1, 2));
        }
    }

    private static Ledgers.Calls overlap(int value, int from, int to) {
        return Ledgers.entities(1).then(ledger -> {
            ledger.tell(0, 0, 5, 20, 30);
            ledger.tell(0, 1, value, from, to);
        });
    }

    private static JoinQuestion[] joinQuestions() {
        return new JoinQuestion[] {
            (ledger, r) -> ledger.joinCount(r[0], r[1], r[2], r[3], r[4]),
            (ledger, r) -> ledger.joinFrom(r[0], r[1], r[2], r[3], r[4], r[5]),
            (ledger, r) -> ledger.joinTo(r[0], r[1], r[2], r[3], r[4], r[5]),
            (ledger, r) -> ledger.commonDays(r[0], r[1], r[2], r[3], r[4]),
            (ledger, r) -> ledger.agreeDays(r[0], r[1], r[2], r[3], r[4])};
    }

    private static void ordersOfJoins() {
        int[][] index = {{2, 1, 0, 1, 5, -1}, {2, 1, 0, 1, 1, 3}, {0, 1, 2, 1, -1, 0},
            {0, 1, 2, 1, 1, 0}, {0, 3, 0, 1, 5, 9}, {0, 1, 0, 3, 0, 0}, {0, 1, 0, -1, 5, 0},
            {-1, -1, -1, -1, -1, -1}, {0, 1, 1, 3, 4, 3}};
        int[][] argument = {{0, 1, 0, 1, 5, 3}, {0, 1, 0, 1, -1, -1}, {1, 1, 1, 1, 5, 0}};
        int[][] horizon = {{0, 1, 0, 1, 1, 3}, {0, 1, 0, 1, 0, -1}, {1, 1, 1, 1, 1, 0}};
        JoinQuestion[] questions = joinQuestions();
        for (int i = 0; i < questions.length; i++) {
            JoinQuestion question = questions[i];
            for (int[] row : index) {
                Boundary.refuses((31 + i) + " the entities and attributes first", Boundary.INDEX,
                        Ledgers.pastPurgedTo(2), ledger -> question.of(ledger, row));
            }
            for (int[] row : argument) {
                Boundary.refuses((31 + i) + " then the tick", Boundary.ARGUMENT,
                        Ledgers.pastPurgedTo(2), ledger -> question.of(ledger, row));
            }
            for (int[] row : horizon) {
                Boundary.refuses((31 + i) + " then the horizon", Boundary.HORIZON,
                        Ledgers.pastPurgedTo(2), ledger -> question.of(ledger, row));
            }
        }
    }

    private static void ordersOfJointPeriods() {
        JoinQuestion[] questions = joinQuestions();
        for (int i = 1; i <= 2; i++) {
            JoinQuestion question = questions[i];
            for (int index : new int[] {LEAST, -1, 3, MOST}) {
                Boundary.refuses((31 + i) + " last, no such joint period", Boundary.ELEMENT,
                        Ledgers.pastPurgedTo(2),
                        ledger -> question.of(ledger, 0, 1, 0, 1, 2, index));
            }
        }
    }

    private static void versionCount() {
        Boundary.attributes("36",
                (ledger, entity, attribute) -> ledger.versionCount(entity, attribute, 0),
                2, 2, 1, 1);
        Boundary.days("36", Ledgers.corners(), (ledger, day) -> ledger.versionCount(1, 0, day),
                1, 2);
        Boundary.days("36", Ledgers.corners(), (ledger, day) -> ledger.versionCount(0, 2, day),
                2, 1);
        int[][] due = {{0, 1}, {9, 1}, {10, 3}, {14, 3}, {15, 3}, {17, 3}, {18, 4}, {19, 4},
            {20, 3}, {24, 3}, {25, 2}, {29, 2}, {30, 1}, {99, 1}};
        for (int[] row : due) {
            Boundary.answers("36 day " + row[0], row[1], Ledgers.past(),
                    ledger -> ledger.versionCount(0, 1, row[0]));
        }
        Boundary.answers("36 at least 1, before the first operation", 1, Ledgers.entities(1),
                ledger -> ledger.versionCount(0, 2, 99));
        Boundary.answers("36 at least 1, where the horizon is the clock", 1,
                Ledgers.pastPurgedTo(4), ledger -> ledger.versionCount(0, 1, 12));
        Boundary.answers("36 the value of another fact is the same", 2,
                Ledgers.entities(1).then(ledger -> {
                    ledger.tell(0, 0, 5, 0, 10);
                    ledger.tell(0, 0, 5, 0, 5);
                    ledger.correct(0, 0, 0, 5);
                    ledger.retract(0, 0, 9, 10);
                }), ledger -> ledger.versionCount(0, 0, 0));
    }

    private static void versionTick() {
        Boundary.attributes("37",
                (ledger, entity, attribute) -> ledger.versionTick(entity, attribute, 50, 1),
                1, 2, 3, 4);
        Boundary.days("37", Ledgers.corners(), (ledger, day) -> ledger.versionTick(1, 0, day, 1),
                Boundary.ELEMENT, 3);
        Boundary.days("37", Ledgers.corners(), (ledger, day) -> ledger.versionTick(0, 2, day, 1),
                2, Boundary.ELEMENT);
        Boundary.indexes("37", Ledgers.past(), 4,
                (ledger, index) -> ledger.versionTick(0, 1, 18, index), 0, 3);
        Boundary.indexes("37 of one", Ledgers.past(), 1,
                (ledger, index) -> ledger.versionTick(0, 1, 30, index), 0, 0);
        Boundary.answers("37 a tick that is passed over", 4, Ledgers.past(),
                ledger -> ledger.versionTick(0, 1, 12, 2));
    }

    private static void isVersionKnown() {
        Boundary.attributes("38",
                (ledger, entity, attribute) -> ledger.isVersionKnown(entity, attribute, 50, 1),
                true, true, true, true);
        Boundary.attributes("38 before",
                (ledger, entity, attribute) -> ledger.isVersionKnown(entity, attribute, 50, 0),
                false, false, false, false);
        Boundary.days("38", Ledgers.corners(), (ledger, day) -> ledger.isVersionKnown(1, 0, day, 1),
                Boundary.ELEMENT, true);
        Boundary.days("38", Ledgers.corners(), (ledger, day) -> ledger.isVersionKnown(1, 0, day, 0),
                false, false);
        Boundary.indexes("38", Ledgers.past(), 4,
                (ledger, index) -> ledger.isVersionKnown(0, 1, 18, index), false, false);
        Boundary.indexes("38", Ledgers.past(), 3,
                (ledger, index) -> ledger.isVersionKnown(0, 1, 12, index), false, true);
        boolean[] due = {false, true, true, false};
        for (int index = 0; index < due.length; index++) {
            int asked = index;
            Boundary.answers("38 version " + index + " of day 18", due[index], Ledgers.past(),
                    ledger -> ledger.isVersionKnown(0, 1, 18, asked));
        }
    }

    private static void versionValue() {
        Boundary.attributes("39",
                (ledger, entity, attribute) -> ledger.versionValue(entity, attribute, 50, 1),
                10, 12, 20, 22);
        Boundary.days("39", Ledgers.corners(), (ledger, day) -> ledger.versionValue(1, 0, day, 1),
                Boundary.ELEMENT, 20);
        Boundary.days("39", Ledgers.corners(), (ledger, day) -> ledger.versionValue(0, 2, day, 1),
                12, Boundary.ELEMENT);
        Boundary.indexes("39", Ledgers.past(), 4,
                (ledger, index) -> ledger.versionValue(0, 1, 18, index),
                Boundary.ELEMENT, Boundary.ELEMENT);
        Boundary.indexes("39", Ledgers.past(), 3,
                (ledger, index) -> ledger.versionValue(0, 1, 12, index), Boundary.ELEMENT, 9);
        Object[] due = {Boundary.ELEMENT, 7, 8, Boundary.ELEMENT};
        for (int index = 0; index < due.length; index++) {
            int asked = index;
            Boundary.asks("39 version " + index + " of day 18", due[index], Ledgers.past(),
                    ledger -> ledger.versionValue(0, 1, 18, asked));
        }
        for (int value : new int[] {LEAST, -1, 0, MOST}) {
            Boundary.answers("39 any value", value,
                    Ledgers.past().then(ledger -> ledger.tell(0, 1, value, 99, 100)),
                    ledger -> ledger.versionValue(0, 1, 99, 1));
        }
        Boundary.answers("39 the value 0 after none is a version", 2,
                Ledgers.past().then(ledger -> ledger.tell(0, 1, 0, 99, 100)),
                ledger -> ledger.versionCount(0, 1, 99));
    }

    private static void sixtyOneVersions() {
        Ledgers.Calls full = Ledgers.operations(60);
        Boundary.answers("36 as many versions as ticks", 61, full,
                ledger -> ledger.versionCount(0, 1, 10));
        Boundary.indexes("37 of 61", full, 61,
                (ledger, index) -> ledger.versionTick(0, 1, 19, index), 0, 60);
        Boundary.indexes("38 of 61", full, 61,
                (ledger, index) -> ledger.isVersionKnown(0, 1, 10, index), false, true);
        Boundary.indexes("39 of 61", full, 61,
                (ledger, index) -> ledger.versionValue(0, 1, 19, index), Boundary.ELEMENT, 60);
        Boundary.answers("36 the day before has one", 1, full,
                ledger -> ledger.versionCount(0, 1, 9));
        Boundary.answers("36 the day after has one", 1, full,
                ledger -> ledger.versionCount(0, 1, 20));
    }

    private static void versionsFromTheHorizon() {
        int[] count18 = {4, 3, 2, 1, 1};
        for (int horizon = 0; horizon <= 4; horizon++) {
            int first = horizon;
            Ledgers.Calls purged = Ledgers.pastPurgedTo(horizon);
            Boundary.answers("36 from the horizon " + horizon, count18[horizon], purged,
                    ledger -> ledger.versionCount(0, 1, 18));
            Boundary.indexes("37 from the horizon " + horizon, purged, count18[horizon],
                    (ledger, index) -> ledger.versionTick(0, 1, 18, index),
                    first, Math.max(first, 3));
            Boundary.answers("38 from the horizon " + horizon, horizon == 1 || horizon == 2,
                    purged, ledger -> ledger.isVersionKnown(0, 1, 18, 0));
        }
        Object[] value18 = {Boundary.ELEMENT, 7, 8, Boundary.ELEMENT, Boundary.ELEMENT};
        Object[] value12 = {Boundary.ELEMENT, 7, 7, 7, 9};
        for (int horizon = 0; horizon <= 4; horizon++) {
            Boundary.asks("39 day 18 in the horizon " + horizon, value18[horizon],
                    Ledgers.pastPurgedTo(horizon), ledger -> ledger.versionValue(0, 1, 18, 0));
            Boundary.asks("39 day 12 in the horizon " + horizon, value12[horizon],
                    Ledgers.pastPurgedTo(horizon), ledger -> ledger.versionValue(0, 1, 12, 0));
        }
        Ledgers.Calls last = Ledgers.operations(60).then(ledger -> ledger.purge(60));
        Boundary.answers("36 horizon and clock 60", 1, last,
                ledger -> ledger.versionCount(0, 1, 10));
        Boundary.answers("37 horizon and clock 60", 60, last,
                ledger -> ledger.versionTick(0, 1, 10, 0));
        Boundary.answers("39 horizon and clock 60", 60, last,
                ledger -> ledger.versionValue(0, 1, 10, 0));
    }

    /** What was asked before leaves nothing behind. */
    private static void oneAfterTheOther() {
        Boundary.answers("36 a second day, and the first again", "4 1 3 4", Ledgers.past(),
                ledger -> ledger.versionCount(0, 1, 18) + " " + ledger.versionCount(0, 1, 30) + " "
                        + ledger.versionCount(0, 1, 12) + " " + ledger.versionCount(0, 1, 18));
        Boundary.answers("31 other attributes, and the first again", "6 0 3 6", sixJoins(),
                ledger -> ledger.joinCount(0, 0, 1, 2, 6) + " " + ledger.joinCount(0, 0, 1, 1, 6)
                        + " " + ledger.joinCount(0, 0, 0, 0, 6) + " "
                        + ledger.joinCount(0, 0, 1, 2, 6));
        Boundary.refuses("37 an index that another day had", Boundary.ELEMENT,
                Ledgers.past().then(ledger -> ledger.versionCount(0, 1, 18)),
                ledger -> ledger.versionTick(0, 1, 12, 3));
        Boundary.refuses("32 an index that another pair had", Boundary.ELEMENT,
                sixJoins().then(ledger -> ledger.joinCount(0, 0, 1, 2, 6)),
                ledger -> ledger.joinFrom(0, 0, 0, 0, 6, 3));
    }

    private static void ordersOfVersions() {
        JoinQuestion[] questions = {
            (ledger, r) -> ledger.versionCount(r[0], r[1], r[2]),
            (ledger, r) -> ledger.versionTick(r[0], r[1], r[2], r[3]),
            (ledger, r) -> ledger.isVersionKnown(r[0], r[1], r[2], r[3]),
            (ledger, r) -> ledger.versionValue(r[0], r[1], r[2], r[3])};
        int[][] index = {{2, 1, 100, -1}, {-1, 1, 12, 3}, {0, 3, -1, 0}, {0, -1, 12, 0},
            {2, 3, 100, 61}};
        int[][] argument = {{0, 1, 100, -1}, {0, 1, -1, 3}, {1, 2, 100, 0}, {0, 1, MOST, MOST}};
        for (int i = 0; i < questions.length; i++) {
            JoinQuestion question = questions[i];
            for (int[] row : index) {
                Boundary.refuses((36 + i) + " the entity and attribute first", Boundary.INDEX,
                        Ledgers.past(), ledger -> question.of(ledger, row));
            }
            for (int[] row : argument) {
                Boundary.refuses((36 + i) + " then the day", Boundary.ARGUMENT, Ledgers.past(),
                        ledger -> question.of(ledger, row));
            }
        }
    }
}
