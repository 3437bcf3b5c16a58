/** The boundaries of the promises 19 to 30: the answers as of a tick. */
public final class BoundaryTicksTest {
    private static final int LEAST = Boundary.LEAST;
    private static final int MOST = Boundary.MOST;

    private BoundaryTicksTest() {
    }

    public static void main(String[] args) {
        isKnown();
        valueOfADay("20 valueAt",
                (ledger, r) -> ledger.valueAt(r[0], r[1], r[2], r[3]));
        valueOfADay("21 valueByReplay",
                (ledger, r) -> ledger.valueByReplay(r[0], r[1], r[2], r[3]));
        replayIsTheSame();
        knownDays();
        periodCount();
        periodFrom();
        periodTo();
        periodValue();
        hundredPeriods();
        integral();
        changedDays();
        changedDaysRefused();
        total();
        totalRange();
        meanValue();
        meanNumbers();
        ordersOfDayQuestions();
        ordersOfTickQuestions();
        ordersOfPeriodQuestions();
        ordersOverAllEntities();
        Boundary.end();
    }

    /** A question about an entity, an attribute, a day and a tick. */
    private interface DayQuestion {
        Object of(FactLedger ledger, int... numbers);
    }

    private static void isKnown() {
        Boundary.attributes("19 on day 0",
                (ledger, entity, attribute) -> ledger.isKnown(entity, attribute, 0, 4),
                true, true, false, false);
        Boundary.attributes("19 on day 99",
                (ledger, entity, attribute) -> ledger.isKnown(entity, attribute, 99, 4),
                true, false, true, false);
        Boundary.days("19", Ledgers.corners(), (ledger, day) -> ledger.isKnown(1, 0, day, 4),
                false, true);
        Boundary.days("19", Ledgers.corners(), (ledger, day) -> ledger.isKnown(0, 2, day, 4),
                true, false);
        Boundary.ticks("19", (ledger, tick) -> ledger.isKnown(0, 1, 18, tick),
                false, true, false, true);
        int[][] due = {{9, 1, 0}, {10, 1, 1}, {29, 1, 1}, {30, 1, 0}, {17, 3, 1}, {18, 3, 0},
            {24, 3, 0}, {25, 3, 1}, {10, 0, 0}, {10, 4, 1}, {24, 2, 1}};
        for (int[] row : due) {
            Boundary.answers("19 day " + row[0] + " as of " + row[1], row[2] == 1, Ledgers.past(),
                    ledger -> ledger.isKnown(0, 1, row[0], row[1]));
        }
    }

    private static void valueOfADay(String promise, DayQuestion question) {
        Boundary.attributes(promise,
                (ledger, entity, attribute) -> question.of(ledger, entity, attribute, 50, 4),
                10, 12, 20, 22);
        Boundary.days(promise, Ledgers.corners(),
                (ledger, day) -> question.of(ledger, 0, 0, day, 4), 10, 10);
        Boundary.days(promise, Ledgers.corners(),
                (ledger, day) -> question.of(ledger, 1, 0, day, 4), Boundary.ELEMENT, 20);
        Boundary.days(promise, Ledgers.corners(),
                (ledger, day) -> question.of(ledger, 0, 2, day, 4), 12, Boundary.ELEMENT);
        Boundary.ticks(promise, (ledger, tick) -> question.of(ledger, 0, 1, 12, tick),
                Boundary.ELEMENT, 7, 9, 60);
        int[][] due = {{10, 1, 7}, {29, 1, 7}, {14, 2, 7}, {15, 2, 8}, {19, 2, 8}, {20, 2, 7},
            {17, 3, 8}, {25, 3, 7}, {10, 3, 7}, {10, 4, 9}, {14, 4, 9}, {15, 4, 8}};
        for (int[] row : due) {
            Boundary.answers(promise + " day " + row[0] + " as of " + row[1], row[2],
                    Ledgers.past(), ledger -> question.of(ledger, 0, 1, row[0], row[1]));
        }
        int[][] unknown = {{12, 0}, {9, 1}, {30, 1}, {18, 3}, {24, 3}, {18, 4}, {24, 4}, {99, 4}};
        for (int[] row : unknown) {
            Boundary.refuses(promise + " no value known on " + row[0] + " as of " + row[1],
                    Boundary.ELEMENT, Ledgers.past(),
                    ledger -> question.of(ledger, 0, 1, row[0], row[1]));
        }
        for (int value : new int[] {LEAST, -1, 0, 1, MOST}) {
            Boundary.answers(promise + " any value", value,
                    Ledgers.past().then(ledger -> ledger.tell(1, 0, value, 99, 100)),
                    ledger -> question.of(ledger, 1, 0, 99, 5));
        }
    }

    private static void replayIsTheSame() {
        for (int horizon = 0; horizon <= 4; horizon++) {
            for (int tick = horizon; tick <= 4; tick++) {
                int at = tick;
                Boundary.answers("21 the same as valueAt as of " + tick + ", horizon " + horizon,
                        "", Ledgers.pastPurgedTo(horizon), ledger -> differences(ledger, at));
            }
        }
    }

    /** The days from 9 to 30 of which valueAt and valueByReplay do not tell the same. */
    private static String differences(FactLedger ledger, int tick) {
        StringBuilder days = new StringBuilder();
        for (int day = 9; day <= 30; day++) {
            int asked = day;
            String one = Check.outcome(() -> ledger.valueAt(0, 1, asked, tick));
            String other = Check.outcome(() -> ledger.valueByReplay(0, 1, asked, tick));
            days.append(one.equals(other) ? "" : day + " ");
        }
        return days.toString();
    }

    private static void knownDays() {
        Boundary.attributes("22",
                (ledger, entity, attribute) -> ledger.knownDays(entity, attribute, 4),
                100, 91, 90, 81);
        Boundary.ticks("22", (ledger, tick) -> ledger.knownDays(0, 1, tick), 0, 20, 13, 10);
        Boundary.answers("22 none of 100", 0, Ledgers.corners(),
                ledger -> ledger.knownDays(0, 1, 4));
        Boundary.answers("22 as of the tick before", 0, Ledgers.corners(),
                ledger -> ledger.knownDays(1, 2, 3));
        Boundary.answers("22 one day", 1,
                Ledgers.corners().then(ledger -> ledger.tell(0, 1, 0, 99, 100)),
                ledger -> ledger.knownDays(0, 1, 5));
    }

    private static void periodCount() {
        Boundary.attributes("23",
                (ledger, entity, attribute) -> ledger.periodCount(entity, attribute, 4),
                1, 1, 1, 1);
        Boundary.ticks("23", (ledger, tick) -> ledger.periodCount(0, 1, tick), 0, 3, 3, 1);
        Boundary.answers("23 none", 0, Ledgers.corners(), ledger -> ledger.periodCount(1, 1, 4));
        Boundary.answers("23 several facts of one value", 1, Ledgers.corners().then(ledger -> {
            ledger.tell(0, 0, 10, 50, 51);
            ledger.tell(0, 0, 10, 0, 1);
            ledger.tell(0, 0, 10, 99, 100);
        }), ledger -> ledger.periodCount(0, 0, 7));
    }

    private static void periodFrom() {
        Boundary.attributes("24",
                (ledger, entity, attribute) -> ledger.periodFrom(entity, attribute, 4, 0),
                0, 0, 10, 10);
        Boundary.ticks("24", (ledger, tick) -> ledger.periodFrom(0, 1, tick, 0),
                Boundary.ELEMENT, 10, 10, 10);
        Boundary.indexes("24", Ledgers.past(), 3,
                (ledger, index) -> ledger.periodFrom(0, 1, 4, index), 10, 25);
        Boundary.answers("24 ordered by days, not by facts", 15, Ledgers.past(),
                ledger -> ledger.periodFrom(0, 1, 4, 1));
        Boundary.answers("24 day 99", 99,
                Ledgers.corners().then(ledger -> ledger.tell(0, 1, 0, 99, 100)),
                ledger -> ledger.periodFrom(0, 1, 5, 0));
    }

    private static void periodTo() {
        Boundary.attributes("25",
                (ledger, entity, attribute) -> ledger.periodTo(entity, attribute, 4, 0),
                100, 91, 100, 91);
        Boundary.ticks("25", (ledger, tick) -> ledger.periodTo(0, 1, tick, 0),
                Boundary.ELEMENT, 15, 15, 20);
        Boundary.indexes("25", Ledgers.past(), 3,
                (ledger, index) -> ledger.periodTo(0, 1, 4, index), 15, 30);
        Boundary.answers("25 ordered by days, not by facts", 18, Ledgers.past(),
                ledger -> ledger.periodTo(0, 1, 4, 1));
        Boundary.answers("25 day 1", 1,
                Ledgers.corners().then(ledger -> ledger.tell(0, 1, 0, 0, 1)),
                ledger -> ledger.periodTo(0, 1, 5, 0));
    }

    private static void periodValue() {
        Boundary.attributes("26",
                (ledger, entity, attribute) -> ledger.periodValue(entity, attribute, 4, 0),
                10, 12, 20, 22);
        Boundary.ticks("26", (ledger, tick) -> ledger.periodValue(0, 1, tick, 0),
                Boundary.ELEMENT, 7, 9, 60);
        Boundary.indexes("26", Ledgers.past(), 3,
                (ledger, index) -> ledger.periodValue(0, 1, 4, index), 9, 7);
        for (int value : new int[] {LEAST, -1, 0, MOST}) {
            Boundary.answers("26 any value", value,
                    Ledgers.past().then(ledger -> ledger.tell(0, 1, value, 99, 100)),
                    ledger -> ledger.periodValue(0, 1, 5, 3));
        }
    }

    /** As many periods as there are days: another value on each further day. */
    private static void hundredPeriods() {
        Ledgers.Calls hundred = Ledgers.entities(1).then(ledger -> {
            ledger.tell(0, 0, 1, 0, 100);
            for (int day = 0; day < 100; day += 2) {
                ledger.tell(0, 0, 2, day, day + 1);
            }
        });
        Boundary.answers("23 a hundred periods", 100, hundred,
                ledger -> ledger.periodCount(0, 0, 51));
        Boundary.indexes("24 a hundred periods", hundred, 100,
                (ledger, index) -> ledger.periodFrom(0, 0, 51, index), 0, 99);
        Boundary.indexes("25 a hundred periods", hundred, 100,
                (ledger, index) -> ledger.periodTo(0, 0, 51, index), 1, 100);
        Boundary.indexes("26 a hundred periods", hundred, 100,
                (ledger, index) -> ledger.periodValue(0, 0, 51, index), 2, 1);
        Boundary.refuses("24 the one behind them as of the tick before", Boundary.ELEMENT,
                hundred, ledger -> ledger.periodFrom(0, 0, 50, 98));
        Boundary.answers("24 the last one as of the tick before", 97, hundred,
                ledger -> ledger.periodFrom(0, 0, 50, 97));
    }

    private static void integral() {
        Boundary.attributes("27",
                (ledger, entity, attribute) -> ledger.integral(entity, attribute, 4),
                1000L, 1092L, 1800L, 1782L);
        Boundary.ticks("27", (ledger, tick) -> ledger.integral(0, 1, tick), 0L, 145L, 104L, 600L);
        Boundary.answers("27 none is known", 0L, Ledgers.corners(),
                ledger -> ledger.integral(0, 1, 4));
        integralOf(MOST, 0, 100, 214748364700L);
        integralOf(LEAST, 0, 100, -214748364800L);
        integralOf(MOST, 0, 1, 2147483647L);
        integralOf(MOST, 98, 100, 4294967294L);
        integralOf(LEAST, 99, 100, -2147483648L);
        integralOf(LEAST, 0, 2, -4294967296L);
        integralOf(0, 0, 100, 0L);
        Boundary.answers("27 values that weigh each other up", 0L, Ledgers.corners().then(l -> {
            l.tell(0, 1, MOST, 0, 50);
            l.tell(0, 1, -MOST, 50, 100);
        }), ledger -> ledger.integral(0, 1, 6));
    }

    private static void integralOf(int value, int from, int to, long want) {
        Boundary.answers("27 " + value + " on " + from + " to " + to, want,
                Ledgers.corners().then(ledger -> ledger.tell(0, 1, value, from, to)),
                ledger -> ledger.integral(0, 1, 5));
    }

    private static void changedDays() {
        Boundary.attributes("28",
                (ledger, entity, attribute) -> ledger.changedDays(entity, attribute, 0, 4),
                100, 91, 90, 81);
        int[][] due = {{0, 0, 0}, {4, 4, 0}, {0, 1, 20}, {1, 0, 20}, {0, 4, 13}, {4, 0, 13},
            {1, 2, 5}, {2, 1, 5}, {2, 3, 7}, {3, 2, 7}, {3, 4, 5}, {2, 4, 12}, {4, 2, 12}};
        for (int[] row : due) {
            Boundary.answers("28 as of " + row[0] + " and " + row[1], row[2], Ledgers.past(),
                    ledger -> ledger.changedDays(0, 1, row[0], row[1]));
        }
        Boundary.answers("28 the last tick and the first", 10, Ledgers.operations(60),
                ledger -> ledger.changedDays(0, 1, 60, 0));
        Boundary.answers("28 the last two ticks", 10, Ledgers.operations(60),
                ledger -> ledger.changedDays(0, 1, 59, 60));
        changedBy("the value 0 where none was known", 1, l -> l.tell(0, 1, 0, 99, 100));
        changedBy("no value where one was known", 1, l -> l.retract(0, 1, 10, 11));
        changedBy("another value on the first day", 1, l -> l.tell(0, 1, 8, 10, 11));
        changedBy("the same values from another fact", 0, l -> l.tell(0, 1, 9, 10, 15));
        changedBy("a correction to the same value", 0, l -> l.correct(0, 1, 10, 9));
        changedBy("another attribute", 0, l -> l.tell(0, 0, 1, 0, 100));
        changedBy("another entity", 0, l -> l.tell(1, 1, 1, 0, 100));
        changedBy("all days", 100, l -> l.tell(0, 1, LEAST, 0, 100));
    }

    private static void changedBy(String sentence, int want, Ledgers.Calls operation) {
        Boundary.answers("28 " + sentence, want, Ledgers.past().then(operation),
                ledger -> ledger.changedDays(0, 1, 4, 5));
        Boundary.answers("28 the other way: " + sentence, want, Ledgers.past().then(operation),
                ledger -> ledger.changedDays(0, 1, 5, 4));
    }

    private static void changedDaysRefused() {
        Boundary.ticks("28 both ticks", (ledger, tick) -> ledger.changedDays(0, 1, tick, tick),
                0, 0, 0, 0);
        Boundary.ticksRefused("28 the tick", (ledger, tick) -> ledger.changedDays(0, 1, tick,
                ledger.clock()));
        Boundary.ticksRefused("28 the other tick", (ledger, tick) -> ledger.changedDays(0, 1,
                ledger.clock(), tick));
        Ledgers.Calls purged = Ledgers.pastPurgedTo(2);
        Boundary.answers("28 the horizon and the clock", 12, purged,
                ledger -> ledger.changedDays(0, 1, 2, 4));
        Boundary.answers("28 the clock and the horizon", 12, purged,
                ledger -> ledger.changedDays(0, 1, 4, 2));
        Boundary.refuses("28 less than the horizon and too large", Boundary.ARGUMENT, purged,
                ledger -> ledger.changedDays(0, 1, 1, 5));
        Boundary.refuses("28 too large and less than the horizon", Boundary.ARGUMENT, purged,
                ledger -> ledger.changedDays(0, 1, 5, 1));
        Boundary.refuses("28 less than the horizon and too small", Boundary.ARGUMENT, purged,
                ledger -> ledger.changedDays(0, 1, 1, -1));
        Boundary.refuses("28 too small and less than the horizon", Boundary.ARGUMENT, purged,
                ledger -> ledger.changedDays(0, 1, -1, 1));
        Boundary.refuses("28 both less than the horizon", Boundary.HORIZON, purged,
                ledger -> ledger.changedDays(0, 1, 1, 0));
    }

    private static void total() {
        Boundary.attributeNumbers("29", (ledger, attribute) -> ledger.total(attribute, 50, 4),
                30, 34);
        Boundary.days("29", Ledgers.corners(), (ledger, day) -> ledger.total(0, day, 4), 10, 30);
        Boundary.days("29", Ledgers.corners(), (ledger, day) -> ledger.total(2, day, 4), 12, 0);
        Boundary.ticks("29", (ledger, tick) -> ledger.total(1, 12, tick), 0, 7, 9, 60);
        Boundary.answers("29 0 if none was known", 0, Ledgers.corners(),
                ledger -> ledger.total(1, 50, 4));
        Boundary.answers("29 0 without entities", 0, Ledgers.entities(0),
                ledger -> ledger.total(2, 99, 0));
        Ledgers.Calls six = Ledgers.entities(6).then(ledger -> {
            for (int entity = 0; entity < 6; entity++) {
                ledger.tell(entity, 2, 1 << entity, entity, 100);
            }
        });
        int[][] due = {{0, 6, 1}, {4, 6, 31}, {5, 6, 63}, {99, 6, 63}, {99, 5, 31}, {99, 0, 0}};
        for (int[] row : due) {
            Boundary.answers("29 six entities on " + row[0] + " as of " + row[1], row[2], six,
                    ledger -> ledger.total(2, row[0], row[1]));
        }
    }

    /** The values told of the entities 0, 1, 2, .. on day 0. */
    private static Ledgers.Calls values(int... values) {
        return Ledgers.entities(6).then(ledger -> {
            for (int entity = 0; entity < values.length; entity++) {
                ledger.tell(entity, 0, values[entity], 0, 1);
            }
        });
    }

    private static void totals(Object want, int... values) {
        Boundary.asks("29 the range of int: " + java.util.Arrays.toString(values), want,
                values(values), ledger -> ledger.total(0, 0, values.length));
    }

    private static void totalRange() {
        totals(MOST, MOST);
        totals(MOST, MOST - 1, 1);
        totals(MOST, MOST, 0);
        totals(Boundary.ARITHMETIC, MOST, 1);
        totals(Boundary.ARITHMETIC, MOST, MOST);
        totals(LEAST, LEAST);
        totals(LEAST, LEAST + 1, -1);
        totals(LEAST, LEAST, 0);
        totals(Boundary.ARITHMETIC, LEAST, -1);
        totals(Boundary.ARITHMETIC, LEAST, LEAST);
        totals(Boundary.ARITHMETIC, MOST, 1, -1);
        totals(MOST, MOST, -1, 1);
        totals(Boundary.ARITHMETIC, LEAST, -1, 1);
        totals(LEAST, LEAST, 1, -1);
        totals(-1, MOST, LEAST);
        totals(-1, LEAST, MOST);
        totals(MOST, -1, MOST, 1);
        totals(Boundary.ARITHMETIC, 1, MOST, -1);
        totals(Boundary.ARITHMETIC, MOST, MOST, LEAST, LEAST);
        totals(-2, MOST, LEAST, MOST, LEAST);
        totals(Boundary.ARITHMETIC, 1, 1, 1, 1, 1, MOST - 4);
        totals(MOST, 1, 1, 1, 1, 1, MOST - 5);
        Boundary.refuses("29 two full turns do not come back to 0", Boundary.ARITHMETIC,
                values(LEAST, LEAST, LEAST, LEAST), ledger -> ledger.total(0, 0, 4));
        Boundary.answers("29 as of a tick before it leaves", MOST, values(MOST, 1),
                ledger -> ledger.total(0, 0, 1));
        Boundary.answers("29 on a day on which it does not leave", 0, values(MOST, 1),
                ledger -> ledger.total(0, 1, 2));
        Boundary.answers("29 of an attribute of which it does not leave", 0, values(MOST, 1),
                ledger -> ledger.total(1, 0, 2));
        Boundary.answers("29 an entity that is not known is passed over", MOST,
                values(MOST, 1).then(ledger -> ledger.retract(1, 0, 0, 1)),
                ledger -> ledger.total(0, 0, 3));
    }

    private static void meanValue() {
        Boundary.attributeNumbers("30", (ledger, attribute) -> ledger.meanValue(attribute, 50, 4),
                15.0, 17.0);
        Boundary.days("30", Ledgers.corners(), (ledger, day) -> ledger.meanValue(0, day, 4),
                10.0, 15.0);
        Boundary.days("30", Ledgers.corners(), (ledger, day) -> ledger.meanValue(2, day, 4),
                12.0, Boundary.ARITHMETIC);
        Boundary.ticks("30", (ledger, tick) -> ledger.meanValue(1, 12, tick),
                Boundary.ARITHMETIC, 7.0, 9.0, 60.0);
        Boundary.refuses("30 none was known", Boundary.ARITHMETIC, Ledgers.corners(),
                ledger -> ledger.meanValue(1, 50, 4));
        Boundary.refuses("30 no entities", Boundary.ARITHMETIC, Ledgers.entities(0),
                ledger -> ledger.meanValue(0, 0, 0));
        Boundary.refuses("30 known no more", Boundary.ARITHMETIC,
                values(5).then(ledger -> ledger.retract(0, 0, 0, 1)),
                ledger -> ledger.meanValue(0, 0, 2));
    }

    private static void means(double want, int... values) {
        Boundary.answers("30 the mean of " + java.util.Arrays.toString(values), want,
                values(values), ledger -> ledger.meanValue(0, 0, values.length));
    }

    private static void meanNumbers() {
        means(0.0, 0);
        means(0.0, -5, 5);
        means(0.5, 0, 1);
        means(-0.5, 0, -1);
        means(1.0 / 3.0, 0, 0, 1);
        means(-2.0 / 3.0, 0, -1, -1);
        means(2147483647.0, MOST);
        means(2147483647.0, MOST, MOST);
        means(2147483647.0, MOST, MOST, MOST, MOST, MOST, MOST);
        means(-2147483648.0, LEAST, LEAST, LEAST, LEAST, LEAST, LEAST);
        means(-0.5, MOST, LEAST);
        means(10.5, 1, 2, 4, 8, 16, 32);
        means(4294967293.0 / 3.0, MOST, MOST, -1);
        Boundary.answers("30 only the values that were known count", 1.5,
                values(1, 50, 2).then(ledger -> ledger.retract(1, 0, 0, 1)),
                ledger -> ledger.meanValue(0, 0, 4));
    }

    /** Each pair of reasons that can apply together, the first documented one first. */
    private static void ordersOfDayQuestions() {
        DayQuestion[] questions = {(ledger, r) -> ledger.isKnown(r[0], r[1], r[2], r[3]),
            (ledger, r) -> ledger.valueAt(r[0], r[1], r[2], r[3]),
            (ledger, r) -> ledger.valueByReplay(r[0], r[1], r[2], r[3])};
        int[][] index = {{2, 1, 100, 4}, {2, 1, 12, 5}, {2, 1, 12, 1}, {0, 3, -1, 4},
            {0, 3, 12, -1}, {0, -1, 12, 0}, {-1, 3, -1, -1}};
        int[][] argument = {{0, 1, 100, 1}, {0, 1, -1, 0}, {0, 1, 100, 5}, {0, 1, 12, -1},
            {1, 2, 100, 4}, {1, 2, 12, 5}};
        int[][] horizon = {{0, 1, 12, 1}, {0, 1, 30, 1}, {0, 1, 12, 0}, {1, 2, 0, 1}};
        for (int i = 0; i < questions.length; i++) {
            DayQuestion question = questions[i];
            for (int[] row : index) {
                Boundary.refuses((19 + i) + " the entity and attribute first", Boundary.INDEX,
                        Ledgers.pastPurgedTo(2), ledger -> question.of(ledger, row));
            }
            for (int[] row : argument) {
                Boundary.refuses((19 + i) + " then the day and tick", Boundary.ARGUMENT,
                        Ledgers.pastPurgedTo(2), ledger -> question.of(ledger, row));
            }
            for (int[] row : horizon) {
                Boundary.refuses((19 + i) + " then the horizon", Boundary.HORIZON,
                        Ledgers.pastPurgedTo(2), ledger -> question.of(ledger, row));
            }
        }
    }

    private static void ordersOfTickQuestions() {
        Boundary.AttributeQuestion[] questions = {
            (ledger, entity, tick) -> ledger.knownDays(entity, 1, tick),
            (ledger, entity, tick) -> ledger.periodCount(entity, 1, tick),
            (ledger, entity, tick) -> ledger.integral(entity, 1, tick),
            (ledger, entity, tick) -> ledger.changedDays(entity, 1, tick, 4),
            (ledger, entity, tick) -> ledger.changedDays(entity, 1, 4, tick)};
        for (int i = 0; i < questions.length; i++) {
            Boundary.AttributeQuestion question = questions[i];
            for (int tick : new int[] {-1, 0, 1, 5}) {
                Boundary.refuses("22, 23, 27, 28 the entity before the tick " + tick,
                        Boundary.INDEX, Ledgers.pastPurgedTo(2),
                        ledger -> question.of(ledger, 2, tick));
            }
        }
    }

    private static void ordersOfPeriodQuestions() {
        DayQuestion[] questions = {(ledger, r) -> ledger.periodFrom(r[0], r[1], r[2], r[3]),
            (ledger, r) -> ledger.periodTo(r[0], r[1], r[2], r[3]),
            (ledger, r) -> ledger.periodValue(r[0], r[1], r[2], r[3])};
        int[][] index = {{2, 1, 4, -1}, {2, 1, 5, 0}, {2, 1, 1, 0}, {0, 3, 4, 3}, {0, -1, -1, -1}};
        int[][] argument = {{0, 1, 5, 3}, {0, 1, -1, -1}, {0, 1, 5, 0}, {1, 1, 5, 0}};
        int[][] horizon = {{0, 1, 1, 3}, {0, 1, 1, -1}, {0, 1, 0, 0}, {1, 1, 1, 0}};
        for (int i = 0; i < questions.length; i++) {
            DayQuestion question = questions[i];
            for (int[] row : index) {
                Boundary.refuses((24 + i) + " the entity and attribute first", Boundary.INDEX,
                        Ledgers.pastPurgedTo(2), ledger -> question.of(ledger, row));
            }
            for (int[] row : argument) {
                Boundary.refuses((24 + i) + " then the tick", Boundary.ARGUMENT,
                        Ledgers.pastPurgedTo(2), ledger -> question.of(ledger, row));
            }
            for (int[] row : horizon) {
                Boundary.refuses((24 + i) + " then the horizon", Boundary.HORIZON,
                        Ledgers.pastPurgedTo(2), ledger -> question.of(ledger, row));
            }
        }
    }

    private static void ordersOverAllEntities() {
        // The sum of attribute 0 leaves the range; of attribute 1 no value is known.
        Ledgers.Calls calls = values(MOST, MOST, 1).then(ledger -> ledger.purge(2));
        DayQuestion[] questions = {(ledger, r) -> ledger.total(r[0], r[1], r[2]),
            (ledger, r) -> ledger.meanValue(r[0], r[1], r[2])};
        int[][] index = {{3, 100, 3}, {-1, 0, 4}, {3, 0, 1}, {3, -1, -1}};
        int[][] argument = {{0, 100, 1}, {0, -1, 3}, {0, 0, 4}, {0, 0, -1}, {1, 100, 3}};
        int[][] horizon = {{0, 0, 1}, {1, 0, 1}, {0, 0, 0}, {0, 99, 1}};
        for (int i = 0; i < questions.length; i++) {
            DayQuestion question = questions[i];
            for (int[] row : index) {
                Boundary.refuses((29 + i) + " the attribute first", Boundary.INDEX, calls,
                        ledger -> question.of(ledger, row));
            }
            for (int[] row : argument) {
                Boundary.refuses((29 + i) + " then the day and tick", Boundary.ARGUMENT, calls,
                        ledger -> question.of(ledger, row));
            }
            for (int[] row : horizon) {
                Boundary.refuses((29 + i) + " then the horizon", Boundary.HORIZON, calls,
                        ledger -> question.of(ledger, row));
            }
        }
        Boundary.refuses("29 then the range of the sum", Boundary.ARITHMETIC, calls,
                ledger -> ledger.total(0, 0, 2));
    }
}
