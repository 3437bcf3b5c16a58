/** The boundaries of the promises 40 to 42: the line and the check. */
public final class BoundaryLineTest {
    private static final int LEAST = Boundary.LEAST;
    private static final int MOST = Boundary.MOST;

    // So many characters can be asked for beside the calls that lead to the line.
    private static final int STRETCH = 400;

    private BoundaryLineTest() {
    }

    public static void main(String[] args) {
        writePeriodsWhere();
        writePeriodsWhen();
        texts();
        numbers();
        inPlaceOfTheLineBefore();
        orders();
        lineAt();
        longestLine();
        isConsistent();
        Boundary.end();
    }

    private static void writePeriodsWhere() {
        Boundary.attributesRefused("40", (ledger, entity, attribute) ->
                ledger.writePeriods(entity, attribute, 4));
        Boundary.does("40 entity 0, attribute 0", "0-100=10", Ledgers.corners(),
                ledger -> Ledgers.written(ledger, 0, 0, 4));
        Boundary.does("40 entity 0, attribute 2", "0-91=12", Ledgers.corners(),
                ledger -> Ledgers.written(ledger, 0, 2, 4));
        Boundary.does("40 entity 1, attribute 0", "10-100=20", Ledgers.corners(),
                ledger -> Ledgers.written(ledger, 1, 0, 4));
        Boundary.does("40 entity 1, attribute 2", "10-91=22", Ledgers.corners(),
                ledger -> Ledgers.written(ledger, 1, 2, 4));
    }

    private static void writePeriodsWhen() {
        Boundary.ticksRefused("40", (ledger, tick) -> ledger.writePeriods(0, 1, tick));
        String[] due = {"", "10-30=7", "10-15=7 15-20=8 20-30=7", "10-15=7 15-18=8 25-30=7",
            "10-15=9 15-18=8 25-30=7"};
        for (int tick = 0; tick <= 4; tick++) {
            int at = tick;
            for (int horizon = 0; horizon <= tick; horizon++) {
                Boundary.does("40 as of " + tick + ", horizon " + horizon, due[tick],
                        Ledgers.pastPurgedTo(horizon), ledger -> Ledgers.written(ledger, 0, 1, at));
            }
        }
        Boundary.does("40 tick 0 of clock 0", "", Ledgers.entities(1),
                ledger -> Ledgers.written(ledger, 0, 0, 0));
        Boundary.does("40 tick 60 of clock 60", "10-20=60", Ledgers.operations(60),
                ledger -> Ledgers.written(ledger, 0, 1, 60));
    }

    private static void texts() {
        Boundary.does("40 as in the document", "0-5=7 9-20=-3", Ledgers.entities(1), ledger -> {
            ledger.tell(0, 0, 7, 0, 5);
            ledger.tell(0, 0, -3, 9, 20);
            return Ledgers.written(ledger, 0, 0, 2);
        });
        Boundary.does("40 its length", 13, Ledgers.entities(1), ledger -> {
            ledger.tell(0, 0, 7, 0, 5);
            ledger.tell(0, 0, -3, 9, 20);
            return ledger.writePeriods(0, 0, 2);
        });
        Boundary.does("40 no period: the length", 0, Ledgers.past(),
                ledger -> ledger.writePeriods(1, 1, 4));
        Boundary.does("40 several facts of one value are one period", "0-100=5",
                Ledgers.entities(1), ledger -> {
                    ledger.tell(0, 0, 5, 0, 50);
                    ledger.tell(0, 0, 5, 50, 100);
                    ledger.tell(0, 0, 5, 49, 51);
                    return Ledgers.written(ledger, 0, 0, 3);
                });
        Boundary.does("40 periods of other values meet without a gap", "0-50=5 50-100=6",
                Ledgers.entities(1), ledger -> {
                    ledger.tell(0, 0, 5, 0, 50);
                    ledger.tell(0, 0, 6, 50, 100);
                    return Ledgers.written(ledger, 0, 0, 2);
                });
    }

    private static void numbers() {
        int[] values = {0, 1, -1, 9, 10, 11, -9, -10, 99, 100, 101, 109, 110, 1000, 1001, 100000,
            999999999, 1000000000, -999999999, -1000000000, MOST - 1, MOST, LEAST + 1, LEAST};
        for (int value : values) {
            written("40 the value " + value, value, 50, 60);
        }
        int[][] days = {{0, 1}, {0, 9}, {0, 10}, {0, 99}, {0, 100}, {8, 9}, {9, 10}, {10, 11},
            {98, 99}, {99, 100}, {9, 99}, {10, 100}};
        for (int[] row : days) {
            written("40 the days", 5, row[0], row[1]);
        }
    }

    private static void written(String sentence, int value, int from, int to) {
        Boundary.does(sentence + " on " + from + " to " + to, from + "-" + to + "=" + value,
                Ledgers.past(), ledger -> {
                    ledger.tell(1, 1, value, from, to);
                    return Ledgers.written(ledger, 1, 1, 5);
                });
    }

    private static void inPlaceOfTheLineBefore() {
        Boundary.does("40 a shorter line in place of a longer one", "10-30=7", Ledgers.past(),
                ledger -> Ledgers.written(ledger, 0, 1, 1));
        Boundary.does("40 a longer line in place of a shorter one", "10-15=7 15-20=8 20-30=7",
                Ledgers.past().then(ledger -> ledger.writePeriods(0, 1, 1)),
                ledger -> Ledgers.written(ledger, 0, 1, 2));
        Boundary.does("40 an empty line in place of one", "", Ledgers.past(),
                ledger -> Ledgers.written(ledger, 0, 0, 4));
        Boundary.does("40 a line in place of an empty one", "10-30=7",
                Ledgers.past().then(ledger -> ledger.writePeriods(0, 0, 4)),
                ledger -> Ledgers.written(ledger, 0, 1, 1));
        Boundary.does("40 the same again", "10-15=9 15-18=8 25-30=7", Ledgers.past(),
                ledger -> Ledgers.written(ledger, 0, 1, 4));
        Boundary.does("41 the line stays when the facts change", "10-15=9 15-18=8 25-30=7",
                Ledgers.past().then(ledger -> ledger.tell(0, 1, 1, 0, 100)),
                ledger -> Ledgers.line(ledger));
    }

    private static void orders() {
        Ledgers.Calls purged = Ledgers.pastPurgedTo(2);
        for (int tick : new int[] {-1, 0, 1, 5}) {
            Boundary.refuses("40 the entity before the tick " + tick, Boundary.INDEX, purged,
                    ledger -> ledger.writePeriods(2, 1, tick));
            Boundary.refuses("40 the attribute before the tick " + tick, Boundary.INDEX, purged,
                    ledger -> ledger.writePeriods(0, 3, tick));
        }
        Boundary.refuses("40 the range before the horizon", Boundary.ARGUMENT, purged,
                ledger -> ledger.writePeriods(0, 1, -1));
        Boundary.refuses("40 the horizon, also where nothing is known", Boundary.HORIZON, purged,
                ledger -> ledger.writePeriods(1, 1, 1));
    }

    private static void lineAt() {
        for (int index : new int[] {LEAST, -1, 0, 1, MOST}) {
            Boundary.refuses("41 empty at first: " + index, Boundary.INDEX, Ledgers.entities(0),
                    ledger -> ledger.lineAt(index));
            Boundary.refuses("41 empty without a period: " + index, Boundary.INDEX,
                    Ledgers.past().then(ledger -> ledger.writePeriods(0, 0, 4)),
                    ledger -> ledger.lineAt(index));
        }
        String line = "10-15=9 15-18=8 25-30=7";
        for (int index = 0; index < line.length(); index++) {
            int at = index;
            Boundary.answers("41 character " + index, line.charAt(index), Ledgers.past(),
                    ledger -> ledger.lineAt(at));
        }
        for (int index : new int[] {LEAST, -23, -1, 23, 24, 1899, 1900, 1901, MOST}) {
            Boundary.refuses("41 no character " + index, Boundary.INDEX, Ledgers.past(),
                    ledger -> ledger.lineAt(index));
        }
        Ledgers.Calls shorter = Ledgers.past().then(ledger -> ledger.writePeriods(0, 1, 1));
        Boundary.answers("41 the last of a shorter line", '7', shorter,
                ledger -> ledger.lineAt(6));
        Boundary.refuses("41 nothing of the longer line before", Boundary.INDEX, shorter,
                ledger -> ledger.lineAt(7));
    }

    /** A hundred periods of the longest values. */
    private static void longestLine() {
        StringBuilder due = new StringBuilder();
        for (int day = 0; day < 100; day++) {
            due.append(day == 0 ? "" : " ").append(day).append('-').append(day + 1).append('=')
                    .append(day % 2 == 0 ? LEAST : LEAST + 1);
        }
        int length = due.length();
        Ledgers.Calls longest = Ledgers.entities(1).then(ledger -> {
            ledger.tell(0, 0, LEAST + 1, 0, 100);
            for (int day = 0; day < 100; day += 2) {
                ledger.tell(0, 0, LEAST, day, day + 1);
            }
        });
        Boundary.does("40 the length of the longest line", length, longest,
                ledger -> ledger.writePeriods(0, 0, 51));
        Ledgers.Calls written = longest.then(ledger -> ledger.writePeriods(0, 0, 51));
        for (int from = 0; from < length; from += STRETCH) {
            int first = from;
            int after = Math.min(from + STRETCH, length);
            Boundary.does("41 the longest line from " + from, due.substring(first, after),
                    written, ledger -> stretch(ledger, first, after));
        }
        Boundary.does("41 no character after the longest line", Boundary.INDEX.getName(), written,
                ledger -> Check.outcome(() -> ledger.lineAt(length)));
    }

    private static String stretch(FactLedger ledger, int from, int to) {
        StringBuilder text = new StringBuilder();
        for (int index = from; index < to; index++) {
            text.append(ledger.lineAt(index));
        }
        return text.toString();
    }

    private static void isConsistent() {
        Ledgers.Calls[] ledgers = {Ledgers.entities(0), Ledgers.entities(1), Ledgers.entities(6),
            Ledgers.corners(), Ledgers.past(), Ledgers.pastPurgedTo(1), Ledgers.pastPurgedTo(4),
            Ledgers.operations(60), Ledgers.operations(60).then(ledger -> ledger.purge(60))};
        for (int i = 0; i < ledgers.length; i++) {
            Boundary.answers("42 ledger " + i, true, ledgers[i], ledger -> ledger.isConsistent());
        }
        Boundary.answers("42 facts that meet have no day in common", true,
                Ledgers.entities(1).then(ledger -> {
                    ledger.tell(0, 0, 5, 20, 30);
                    ledger.tell(0, 0, 5, 30, 40);
                    ledger.tell(0, 0, 5, 10, 20);
                }), ledger -> ledger.isConsistent());
        Boundary.answers("42 the same days of other attributes and entities", true,
                Ledgers.entities(2).then(ledger -> {
                    ledger.tell(0, 0, 5, 20, 30);
                    ledger.tell(0, 1, 6, 20, 30);
                    ledger.tell(1, 0, 7, 20, 30);
                }), ledger -> ledger.isConsistent());
        Boundary.answers("42 after a correction behind a purge", true,
                Ledgers.pastPurgedTo(4).then(ledger -> ledger.correct(0, 1, 29, LEAST)),
                ledger -> ledger.isConsistent());
    }
}
