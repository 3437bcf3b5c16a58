import java.util.NoSuchElementException;

/** Asks on one side of a boundary: each question gets a new ledger that is led there. */
final class Boundary {
    static final Class<IndexOutOfBoundsException> INDEX = IndexOutOfBoundsException.class;
    static final Class<IllegalArgumentException> ARGUMENT = IllegalArgumentException.class;
    static final Class<IllegalStateException> STATE = IllegalStateException.class;
    static final Class<NoSuchElementException> ELEMENT = NoSuchElementException.class;
    static final Class<UnsupportedOperationException> HORIZON = UnsupportedOperationException.class;
    static final Class<ArithmeticException> ARITHMETIC = ArithmeticException.class;

    static final int LEAST = Integer.MIN_VALUE;
    static final int MOST = Integer.MAX_VALUE;

    private static final Check CHECK = new Check();

    private Boundary() {
    }

    /** A call whose answer is compared. */
    interface Question {
        Object of(FactLedger ledger);
    }

    /** A question about an attribute of an entity. */
    interface AttributeQuestion {
        Object of(FactLedger ledger, int entity, int attribute);
    }

    /** A question about one number: a day, a tick or an index. */
    interface NumberQuestion {
        Object of(FactLedger ledger, int number);
    }

    /** A call that may change the ledger, or the calls after one: only the answer is compared. */
    static void does(String sentence, Object want, Ledgers.Calls before, Question question) {
        FactLedger ledger = Ledgers.led(before);
        CHECK.due(sentence, () -> question.of(ledger), want);
    }

    /** A question that is answered; nothing that can be seen may be another afterwards. */
    static void answers(String sentence, Object want, Ledgers.Calls before, Question question) {
        FactLedger ledger = Ledgers.led(before);
        CHECK.due(sentence, () -> question.of(ledger), want);
        unchanged(sentence, ledger, before);
    }

    /** A call that is refused; nothing that can be seen may be another afterwards. */
    static void refuses(String sentence, Class<? extends RuntimeException> want,
            Ledgers.Calls before, Question question) {
        FactLedger ledger = Ledgers.led(before);
        CHECK.dueThrow(sentence, () -> question.of(ledger), want);
        unchanged(sentence, ledger, before);
    }

    /** A question whose due outcome is an answer, or an exception told by its class. */
    static void asks(String sentence, Object want, Ledgers.Calls before, Question question) {
        if (want instanceof Class<?> exception) {
            refuses(sentence, exception.asSubclass(RuntimeException.class), before, question);
        } else {
            answers(sentence, want, before, question);
        }
    }

    /**
     * No such entity or attribute: both sides of the bounds, with the outcomes that are due for
     * the four attributes of Ledgers.corners().
     */
    static void attributes(String promise, AttributeQuestion question, Object at00, Object at02,
            Object at10, Object at12) {
        asks(promise + " entity 0, attribute 0", at00, Ledgers.corners(),
                ledger -> question.of(ledger, 0, 0));
        asks(promise + " entity 0, attribute 2", at02, Ledgers.corners(),
                ledger -> question.of(ledger, 0, 2));
        asks(promise + " entity 1 of 2, attribute 0", at10, Ledgers.corners(),
                ledger -> question.of(ledger, 1, 0));
        asks(promise + " entity 1 of 2, attribute 2", at12, Ledgers.corners(),
                ledger -> question.of(ledger, 1, 2));
        attributesRefused(promise, question);
    }

    static void attributesRefused(String promise, AttributeQuestion question) {
        for (int entity : new int[] {LEAST, -1, 2, 5, 6, MOST}) {
            refuses(promise + " no entity " + entity, INDEX, Ledgers.corners(),
                    ledger -> question.of(ledger, entity, 0));
        }
        for (int attribute : new int[] {LEAST, -3, -1, 3, 4, MOST}) {
            for (int entity = 0; entity < 2; entity++) {
                int number = entity;
                refuses(promise + " no attribute " + attribute, INDEX, Ledgers.corners(),
                        ledger -> question.of(ledger, number, attribute));
            }
        }
        refuses(promise + " no entity at all", INDEX, Ledgers.entities(0),
                ledger -> question.of(ledger, 0, 0));
        refuses(promise + " no entity 6 of 6", INDEX, Ledgers.entities(6),
                ledger -> question.of(ledger, 6, 0));
    }

    /** No attribute, in a question about all entities. */
    static void attributeNumbers(String promise, NumberQuestion question, Object at0, Object at2) {
        asks(promise + " attribute 0", at0, Ledgers.corners(), ledger -> question.of(ledger, 0));
        asks(promise + " attribute 2", at2, Ledgers.corners(), ledger -> question.of(ledger, 2));
        for (int attribute : new int[] {LEAST, -3, -1, 3, 4, MOST}) {
            refuses(promise + " no attribute " + attribute, INDEX, Ledgers.corners(),
                    ledger -> question.of(ledger, attribute));
        }
        refuses(promise + " no attribute 3 without entities", INDEX, Ledgers.entities(0),
                ledger -> question.of(ledger, 3));
    }

    /** The day out of range: both sides of the bounds, with the outcomes due for the last days. */
    static void days(String promise, Ledgers.Calls before, NumberQuestion question, Object at0,
            Object at99) {
        asks(promise + " day 0", at0, before, ledger -> question.of(ledger, 0));
        asks(promise + " day 99", at99, before, ledger -> question.of(ledger, 99));
        for (int day : new int[] {LEAST, -100, -1, 100, 101, MOST}) {
            refuses(promise + " no day " + day, ARGUMENT, before,
                    ledger -> question.of(ledger, day));
        }
    }

    /**
     * The tick out of range, or less than the horizon: both sides of the bounds for questions about
     * attribute 1 of entity 0, with the outcomes due as of the ticks 0, 2 and 4 of Ledgers.past()
     * and as of the tick 60 of Ledgers.operations(60).
     */
    static void ticks(String promise, NumberQuestion question, Object at0, Object at2, Object at4,
            Object at60) {
        asks(promise + " tick 0 of clock 0", at0, Ledgers.entities(1),
                ledger -> question.of(ledger, 0));
        asks(promise + " tick 0 of clock 4", at0, Ledgers.past(),
                ledger -> question.of(ledger, 0));
        asks(promise + " tick 4 of clock 4", at4, Ledgers.past(),
                ledger -> question.of(ledger, 4));
        asks(promise + " tick 60 of clock 60", at60, Ledgers.operations(60),
                ledger -> question.of(ledger, 60));
        asks(promise + " tick 2 of horizon 0", at2, Ledgers.past(),
                ledger -> question.of(ledger, 2));
        asks(promise + " tick 2 of horizon 2", at2, Ledgers.pastPurgedTo(2),
                ledger -> question.of(ledger, 2));
        asks(promise + " tick 4 of horizon 2", at4, Ledgers.pastPurgedTo(2),
                ledger -> question.of(ledger, 4));
        asks(promise + " tick 4 of horizon 4", at4, Ledgers.pastPurgedTo(4),
                ledger -> question.of(ledger, 4));
        ticksRefused(promise, question);
    }

    static void ticksRefused(String promise, NumberQuestion question) {
        for (int tick : new int[] {LEAST, -60, -1, 5, 6, 60, 61, MOST}) {
            refuses(promise + " tick " + tick + " of clock 4", ARGUMENT, Ledgers.past(),
                    ledger -> question.of(ledger, tick));
        }
        for (int tick : new int[] {-1, 1}) {
            refuses(promise + " tick " + tick + " of clock 0", ARGUMENT, Ledgers.entities(1),
                    ledger -> question.of(ledger, tick));
        }
        refuses(promise + " tick 61 of clock 60", ARGUMENT, Ledgers.operations(60),
                ledger -> question.of(ledger, 61));
        for (int horizon = 1; horizon <= 4; horizon++) {
            for (int tick = 0; tick < horizon; tick++) {
                int asked = tick;
                refuses(promise + " tick " + tick + " of horizon " + horizon, HORIZON,
                        Ledgers.pastPurgedTo(horizon), ledger -> question.of(ledger, asked));
            }
        }
        for (int tick : new int[] {LEAST, -1, 5}) {
            refuses(promise + " tick " + tick + " of horizon 4: the range comes first", ARGUMENT,
                    Ledgers.pastPurgedTo(4), ledger -> question.of(ledger, tick));
        }
    }

    /** The index of one of so many: both sides of the bounds, with the outcomes at its ends. */
    static void indexes(String promise, Ledgers.Calls before, int count, NumberQuestion question,
            Object atFirst, Object atLast) {
        asks(promise + " index 0", atFirst, before, ledger -> question.of(ledger, 0));
        asks(promise + " the last index", atLast, before,
                ledger -> question.of(ledger, count - 1));
        for (int index : new int[] {LEAST, -1, count, count + 1, 100, MOST}) {
            refuses(promise + " index " + index + " of " + count, ELEMENT, before,
                    ledger -> question.of(ledger, index));
        }
    }

    static void end() {
        CHECK.end();
    }

    private static void unchanged(String sentence, FactLedger ledger, Ledgers.Calls before) {
        CHECK.same(sentence + ": afterwards", Ledgers.state(ledger),
                Ledgers.state(Ledgers.led(before)));
    }
}
