import java.util.NoSuchElementException;

/** The calls that lead a new ledger to a boundary, and a look at all of its state. */
final class Ledgers {
    private static final int SHOWN_TICKS = 5;
    private static final int SHOWN_FACTS = 7;
    private static final int LAST_FACT = 180;

    private Ledgers() {
    }

    /** Calls on a ledger that ask for no answer. */
    interface Calls {
        void on(FactLedger ledger);

        default Calls then(Calls more) {
            return ledger -> {
                on(ledger);
                more.on(ledger);
            };
        }
    }

    static FactLedger led(Calls calls) {
        FactLedger ledger = new FactLedger();
        calls.on(ledger);
        return ledger;
    }

    static Calls entities(int number) {
        return ledger -> {
            for (int i = 0; i < number; i++) {
                ledger.addEntity();
            }
        };
    }

    /** Two entities; their attributes 0 and 2 are known, each on other days: clock 4. */
    static Calls corners() {
        return entities(2).then(ledger -> {
            ledger.tell(0, 0, 10, 0, 100);
            ledger.tell(0, 2, 12, 0, 91);
            ledger.tell(1, 0, 20, 10, 100);
            ledger.tell(1, 2, 22, 10, 91);
            ledger.writePeriods(1, 2, 4);
        });
    }

    /**
     * Two entities; attribute 1 of entity 0 has a past: in tick 1 the value 7 on the days 10 to 29,
     * in tick 2 the value 8 on 15 to 19, in tick 3 no value on 18 to 24, in tick 4 the value 9 for
     * the fact of day 12. The facts:
     * 0: 7 on 10-30, ticks 1 to 2; 1: 7 on 10-15, ticks 2 to 4; 2: 7 on 20-30, ticks 2 to 3;
     * 3: 8 on 15-20, ticks 2 to 3; 4: 8 on 15-18 from 3; 5: 7 on 25-30 from 3; 6: 9 on 10-15
     * from 4.
     */
    static Calls past() {
        return entities(2).then(ledger -> {
            ledger.tell(0, 1, 7, 10, 30);
            ledger.tell(0, 1, 8, 15, 20);
            ledger.retract(0, 1, 18, 25);
            ledger.correct(0, 1, 12, 9);
            ledger.writePeriods(0, 1, 4);
        });
    }

    static Calls pastPurgedTo(int tick) {
        return past().then(ledger -> ledger.purge(tick));
    }

    /** Two entities and so many operations: in each tick its own number for the days 10 to 19. */
    static Calls operations(int number) {
        return entities(2).then(ledger -> {
            for (int tick = 1; tick <= number; tick++) {
                ledger.tell(0, 1, tick, 10, 20);
            }
        });
    }

    /** Writes a fact as value:from-to@opened/closed. */
    static String fact(FactLedger ledger, int fact) {
        return ledger.factValue(fact) + ":" + ledger.factFrom(fact) + "-" + ledger.factTo(fact)
                + "@" + ledger.openedAt(fact) + "/" + ledger.closedAt(fact);
    }

    /** Writes the facts from a number on. */
    static String factsFrom(FactLedger ledger, int first) {
        StringBuilder text = new StringBuilder();
        for (int number = first; number < ledger.factCount(); number++) {
            text.append(number == first ? "" : " ").append(fact(ledger, number));
        }
        return text.toString();
    }

    static String line(FactLedger ledger) {
        StringBuilder text = new StringBuilder();
        try {
            for (int index = 0; index >= 0; index++) {
                text.append(ledger.lineAt(index));
            }
        } catch (IndexOutOfBoundsException e) {
            return text.toString();
        }
        return text.toString();
    }

    static String written(FactLedger ledger, int entity, int attribute, int tick) {
        int length = ledger.writePeriods(entity, attribute, tick);
        String line = line(ledger);
        return line.length() == length ? line : line + " of a length told as " + length;
    }

    /**
     * Tells what can be seen of a ledger, in some 250 calls at most for the ledgers above: an
     * object answers 512.
     */
    static String state(FactLedger ledger) {
        StringBuilder text = new StringBuilder();
        text.append("line ").append(line(ledger));
        text.append(", entities ").append(ledger.entityCount());
        text.append(", clock ").append(ledger.clock());
        text.append(", horizon ").append(ledger.horizon());
        text.append(", open ").append(ledger.openCount());
        text.append(", consistent ").append(ledger.isConsistent());
        addTicks(text, ledger);
        addFacts(text, ledger);
        addKnowledge(text, ledger);
        return text.toString();
    }

    private static void addTicks(StringBuilder text, FactLedger ledger) {
        int now = ledger.clock();
        for (int tick = Math.max(1, now - SHOWN_TICKS + 1); tick <= now; tick++) {
            text.append(", tick ").append(tick).append(' ').append(ledger.operationAt(tick))
                    .append(ledger.entityOf(tick));
        }
    }

    private static void addFacts(StringBuilder text, FactLedger ledger) {
        int left = ledger.factCount();
        text.append(", facts ").append(left);
        for (int number = 0; left > 0 && number < LAST_FACT; number++) {
            if (isFact(ledger, number)) {
                text.append(", ").append(number).append(" closed ").append(ledger.closedAt(number));
                text.append(left <= SHOWN_FACTS ? " " + fact(ledger, number) : "");
                left--;
            }
        }
    }

    private static boolean isFact(FactLedger ledger, int number) {
        try {
            ledger.factValue(number);
            return true;
        } catch (NoSuchElementException e) {
            return false;
        }
    }

    private static void addKnowledge(StringBuilder text, FactLedger ledger) {
        int now = ledger.clock();
        for (int entity = 0; entity < ledger.entityCount(); entity++) {
            for (int attribute = 0; attribute < 3; attribute++) {
                text.append(", days ").append(ledger.knownDays(entity, attribute, now))
                        .append(" sum ").append(ledger.integral(entity, attribute, now));
            }
        }
    }
}
