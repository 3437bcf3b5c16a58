import java.util.NoSuchElementException;

/** Each promise of the document by its number: ordinary inputs, the named edges, wrong inputs. */
public final class PromiseTest {
    private static final Class<IndexOutOfBoundsException> INDEX = IndexOutOfBoundsException.class;
    private static final Class<IllegalArgumentException> ARGUMENT = IllegalArgumentException.class;
    private static final Class<IllegalStateException> STATE = IllegalStateException.class;
    private static final Class<NoSuchElementException> ELEMENT = NoSuchElementException.class;
    private static final Class<UnsupportedOperationException> HORIZON =
            UnsupportedOperationException.class;
    private static final Class<ArithmeticException> ARITHMETIC = ArithmeticException.class;

    private static final int LEAST = Integer.MIN_VALUE;
    private static final int MOST = Integer.MAX_VALUE;

    private static final Check CHECK = new Check();

    private PromiseTest() {
    }

    public static void main(String[] args) {
        newObject();
        addEntity();
        entityCount();
        tell();
        tellOrdersFacts();
        tellRefuses();
        retract();
        retractRefuses();
        correct();
        correctRefuses();
        clock();
        operations();
        facts();
        factRefusals();
        mostFacts();
        purge();
        horizonCutsQuestions();
        isKnown();
        values();
        dayQuestionsRefuse();
        tickQuestionsRefuse();
        knownDays();
        periods();
        integral();
        changedDays();
        total();
        meanValue();
        allEntitiesRefuse();
        joins();
        joinsRefuse();
        versions();
        versionsRefuse();
        line();
        isConsistent();
        CHECK.end();
    }

    private static void due(String what, Object want, Check.Call call) {
        CHECK.due(what, call, want);
    }

    private static void refused(String what, Class<? extends RuntimeException> want,
            Check.Call call) {
        CHECK.dueThrow(what, call, want);
    }

    private static FactLedger withEntities(int number) {
        FactLedger ledger = new FactLedger();
        for (int i = 0; i < number; i++) {
            ledger.addEntity();
        }
        return ledger;
    }

    /** A ledger with two entities and 60 operations: value i in tick i, on the days 10 to 19. */
    private static FactLedger full() {
        FactLedger ledger = withEntities(2);
        for (int tick = 1; tick <= 60; tick++) {
            ledger.tell(0, 0, tick, 10, 20);
        }
        return ledger;
    }

    /**
     * One attribute with a past: in tick 1 the value 7 on the days 10 to 29, in tick 2 the value 8
     * on 15 to 19, in tick 3 no value on 18 to 24, in tick 4 the value 9 for the fact of day 12.
     */
    private static FactLedger withPast() {
        FactLedger ledger = withEntities(2);
        ledger.tell(0, 1, 7, 10, 30);
        ledger.tell(0, 1, 8, 15, 20);
        ledger.retract(0, 1, 18, 25);
        ledger.correct(0, 1, 12, 9);
        return ledger;
    }

    private static String lineOf(FactLedger ledger, int length) {
        StringBuilder text = new StringBuilder();
        for (int i = 0; i < length; i++) {
            text.append(ledger.lineAt(i));
        }
        return text.toString();
    }

    /** Writes a fact as value:from-to@opened/closed. */
    private static String fact(FactLedger ledger, int fact) {
        return ledger.factValue(fact) + ":" + ledger.factFrom(fact) + "-" + ledger.factTo(fact)
                + "@" + ledger.openedAt(fact) + "/" + ledger.closedAt(fact);
    }

    private static String periodsOf(FactLedger ledger, int entity, int attribute, int tick) {
        StringBuilder text = new StringBuilder();
        for (int i = 0; i < ledger.periodCount(entity, attribute, tick); i++) {
            text.append(i == 0 ? "" : " ").append(ledger.periodFrom(entity, attribute, tick, i))
                    .append('-').append(ledger.periodTo(entity, attribute, tick, i))
                    .append('=').append(ledger.periodValue(entity, attribute, tick, i));
        }
        return text.toString();
    }

    private static String joinOf(FactLedger ledger, int attribute, int otherAttribute, int tick) {
        StringBuilder text = new StringBuilder();
        for (int i = 0; i < ledger.joinCount(0, attribute, 1, otherAttribute, tick); i++) {
            text.append(i == 0 ? "" : " ")
                    .append(ledger.joinFrom(0, attribute, 1, otherAttribute, tick, i))
                    .append('-').append(ledger.joinTo(0, attribute, 1, otherAttribute, tick, i));
        }
        return text.toString();
    }

    private static String versionsOf(FactLedger ledger, int day) {
        StringBuilder text = new StringBuilder();
        for (int i = 0; i < ledger.versionCount(0, 1, day); i++) {
            text.append(i == 0 ? "" : " ").append(ledger.versionTick(0, 1, day, i)).append(':');
            text.append(ledger.isVersionKnown(0, 1, day, i)
                    ? String.valueOf(ledger.versionValue(0, 1, day, i)) : "?");
        }
        return text.toString();
    }

    private static void newObject() {
        FactLedger ledger = new FactLedger();
        due("1 entities", 0, () -> ledger.entityCount());
        due("1 clock", 0, () -> ledger.clock());
        due("1 horizon", 0, () -> ledger.horizon());
        due("1 facts", 0, () -> ledger.factCount());
        due("1 open facts", 0, () -> ledger.openCount());
        due("1 consistent", true, () -> ledger.isConsistent());
        refused("1 no entity 0", INDEX, () -> ledger.knownDays(0, 0, 0));
        refused("1 empty line", INDEX, () -> ledger.lineAt(0));
        due("1 second object", 0, () -> {
            full();
            return new FactLedger().clock();
        });
    }

    private static void addEntity() {
        FactLedger ledger = new FactLedger();
        for (int entity = 0; entity < 6; entity++) {
            int number = entity;
            due("2 number", number, () -> ledger.addEntity());
            due("2 nothing is known", 0, () -> ledger.knownDays(number, 2, 0));
        }
        refused("2 seventh", STATE, () -> ledger.addEntity());
        refused("2 eighth", STATE, () -> ledger.addEntity());
        due("2 a refusal adds nothing", 6, () -> ledger.entityCount());
        due("2 the last entity works", 0, () -> ledger.tell(5, 2, 1, 0, 100));
        FactLedger late = full();
        due("2 after 60 operations", 2, () -> late.addEntity());
        due("2 no operation", 60, () -> late.clock());
        due("2 nothing known of it", 0, () -> late.knownDays(2, 0, 60));
    }

    private static void entityCount() {
        FactLedger ledger = new FactLedger();
        for (int number = 1; number <= 6; number++) {
            ledger.addEntity();
            int count = number;
            due("3 count", count, () -> ledger.entityCount());
        }
    }

    private static void tell() {
        FactLedger ledger = withEntities(2);
        due("4 first", 0, () -> ledger.tell(0, 0, 5, 0, 10));
        due("4 next to it", 0, () -> ledger.tell(0, 0, 5, 10, 20));
        due("4 other attribute", 0, () -> ledger.tell(0, 1, 5, 0, 20));
        due("4 other entity", 0, () -> ledger.tell(1, 0, 5, 0, 20));
        due("4 open", 4, () -> ledger.openCount());
        due("4 over two", 2, () -> ledger.tell(0, 0, 6, 9, 11));
        due("4 one day of one", 1, () -> ledger.tell(0, 0, 6, 0, 1));
        due("4 all days", 4, () -> ledger.tell(0, 0, LEAST, 0, 100));
        due("4 same again", 1, () -> ledger.tell(0, 0, LEAST, 0, 100));
        due("4 value", LEAST, () -> ledger.valueAt(0, 0, 99, 7));
        due("4 others stay", "0-20=5", () -> periodsOf(ledger, 0, 1, 7));
        due("4 others stay", "0-20=5", () -> periodsOf(ledger, 1, 0, 7));
        due("4 last day", 1, () -> ledger.tell(0, 0, MOST, 99, 100));
        due("4 value", MOST, () -> ledger.valueAt(0, 0, 99, 9));
        due("4 clock", 9, () -> ledger.clock());
    }

    private static void tellOrdersFacts() {
        FactLedger ledger = withEntities(1);
        ledger.tell(0, 0, 3, 50, 60);
        ledger.tell(0, 0, 2, 30, 40);
        ledger.tell(0, 0, 1, 10, 20);
        due("4 closes three", 3, () -> ledger.tell(0, 0, 4, 15, 55));
        due("4 before", "1:10-15@4/-1", () -> fact(ledger, 3));
        due("4 after", "3:55-60@4/-1", () -> fact(ledger, 4));
        due("4 told", "4:15-55@4/-1", () -> fact(ledger, 5));
        due("4 closed", "3:50-60@1/4", () -> fact(ledger, 0));
        due("4 closed", "2:30-40@2/4", () -> fact(ledger, 1));
        due("4 closed", "1:10-20@3/4", () -> fact(ledger, 2));
        due("4 closes one", 1, () -> ledger.tell(0, 0, 5, 20, 30));
        due("4 before", "4:15-20@5/-1", () -> fact(ledger, 6));
        due("4 after", "4:30-55@5/-1", () -> fact(ledger, 7));
        due("4 told", "5:20-30@5/-1", () -> fact(ledger, 8));
        due("4 facts", 9, () -> ledger.factCount());
        due("4 open facts", 5, () -> ledger.openCount());
    }

    private static void tellRefuses() {
        FactLedger ledger = withEntities(2);
        refused("4 entity", INDEX, () -> ledger.tell(2, 0, 1, 0, 1));
        refused("4 entity", INDEX, () -> ledger.tell(-1, 0, 1, 0, 1));
        refused("4 entity", INDEX, () -> ledger.tell(MOST, 0, 1, 0, 1));
        refused("4 attribute", INDEX, () -> ledger.tell(0, 3, 1, 0, 1));
        refused("4 attribute", INDEX, () -> ledger.tell(1, -1, 1, 0, 1));
        refused("4 attribute first", INDEX, () -> ledger.tell(0, 3, 1, 5, 5));
        refused("4 no days", ARGUMENT, () -> ledger.tell(0, 0, 1, 5, 5));
        refused("4 backwards", ARGUMENT, () -> ledger.tell(0, 0, 1, 6, 5));
        refused("4 from -1", ARGUMENT, () -> ledger.tell(0, 0, 1, -1, 5));
        refused("4 to 101", ARGUMENT, () -> ledger.tell(0, 0, 1, 0, 101));
        refused("4 from 100", ARGUMENT, () -> ledger.tell(0, 0, 1, 100, 100));
        refused("4 from 100", ARGUMENT, () -> ledger.tell(0, 0, 1, 100, 101));
        refused("4 far", ARGUMENT, () -> ledger.tell(0, 0, 1, LEAST, MOST));
        due("4 a refusal has no tick", 0, () -> ledger.clock());
        due("4 a refusal opens no fact", 0, () -> ledger.factCount());
        FactLedger full = full();
        refused("4 61st", STATE, () -> full.tell(0, 0, 1, 0, 1));
        refused("4 days before 61st", ARGUMENT, () -> full.tell(0, 0, 1, 0, 0));
        refused("4 entity before 61st", INDEX, () -> full.tell(2, 0, 1, 0, 1));
        due("4 a refusal has no tick", 60, () -> full.clock());
        due("4 a refusal closes no fact", 60, () -> full.factCount());
    }

    private static void retract() {
        FactLedger ledger = withEntities(1);
        ledger.tell(0, 0, 5, 0, 100);
        due("5 inner days", 20, () -> ledger.retract(0, 0, 40, 60));
        due("5 before", "5:0-40@2/-1", () -> fact(ledger, 1));
        due("5 after", "5:60-100@2/-1", () -> fact(ledger, 2));
        due("5 opens nothing else", 3, () -> ledger.factCount());
        due("5 known and unknown days", 10, () -> ledger.retract(0, 0, 35, 65));
        due("5 whole fact", 35, () -> ledger.retract(0, 0, 65, 100));
        due("5 one day", 1, () -> ledger.retract(0, 0, 0, 1));
        due("5 the rest", 34, () -> ledger.retract(0, 0, 0, 100));
        due("5 nothing open", 0, () -> ledger.openCount());
        due("5 clock", 6, () -> ledger.clock());
        ledger.tell(0, 0, 1, 10, 20);
        ledger.tell(0, 0, 2, 30, 40);
        due("5 over a gap", 10, () -> ledger.retract(0, 0, 15, 35));
        due("5 what stays", "10-15=1 35-40=2", () -> periodsOf(ledger, 0, 0, 9));
    }

    private static void retractRefuses() {
        FactLedger ledger = withEntities(2);
        ledger.tell(0, 0, 5, 10, 20);
        refused("5 entity", INDEX, () -> ledger.retract(2, 0, 10, 20));
        refused("5 entity", INDEX, () -> ledger.retract(-1, 0, 10, 20));
        refused("5 attribute", INDEX, () -> ledger.retract(0, 3, 10, 20));
        refused("5 attribute", INDEX, () -> ledger.retract(1, -3, 10, 20));
        refused("5 no days", ARGUMENT, () -> ledger.retract(0, 0, 15, 15));
        refused("5 from -1", ARGUMENT, () -> ledger.retract(0, 0, -1, 15));
        refused("5 to 101", ARGUMENT, () -> ledger.retract(0, 0, 15, 101));
        refused("5 days before unknown", ARGUMENT, () -> ledger.retract(1, 0, 3, 3));
        refused("5 unknown before", ELEMENT, () -> ledger.retract(0, 0, 0, 10));
        refused("5 unknown after", ELEMENT, () -> ledger.retract(0, 0, 20, 100));
        refused("5 other attribute", ELEMENT, () -> ledger.retract(0, 1, 0, 100));
        refused("5 other entity", ELEMENT, () -> ledger.retract(1, 0, 0, 100));
        due("5 a refusal changes nothing", "5:10-20@1/-1", () -> fact(ledger, 0));
        due("5 a refusal has no tick", 1, () -> ledger.clock());
        FactLedger full = full();
        refused("5 61st", STATE, () -> full.retract(0, 0, 0, 100));
        refused("5 unknown before 61st", ELEMENT, () -> full.retract(0, 0, 0, 10));
        due("5 a refusal changes nothing", 10, () -> full.knownDays(0, 0, 60));
    }

    private static void correct() {
        FactLedger ledger = withEntities(1);
        ledger.tell(0, 2, 5, 10, 30);
        due("6 first day", 20, () -> ledger.correct(0, 2, 10, 6));
        due("6 last day", 20, () -> ledger.correct(0, 2, 29, 7));
        due("6 same value", 20, () -> ledger.correct(0, 2, 20, 7));
        due("6 closed", "7:10-30@3/4", () -> fact(ledger, 2));
        due("6 opened", "7:10-30@4/-1", () -> fact(ledger, 3));
        ledger.tell(0, 2, 7, 20, 25);
        due("6 the fact, not the period", 5, () -> ledger.correct(0, 2, 22, 8));
        due("6 neighbours stay", "10-20=7 20-25=8 25-30=7", () -> periodsOf(ledger, 0, 2, 6));
        ledger.tell(0, 2, 1, 99, 100);
        due("6 day 99", 1, () -> ledger.correct(0, 2, 99, 2));
        ledger.tell(0, 2, 1, 0, 1);
        due("6 day 0", 1, () -> ledger.correct(0, 2, 0, 2));
        due("6 clock", 10, () -> ledger.clock());
    }

    private static void correctRefuses() {
        FactLedger ledger = withEntities(1);
        ledger.tell(0, 0, 5, 10, 30);
        refused("6 entity", INDEX, () -> ledger.correct(1, 0, 10, 1));
        refused("6 entity", INDEX, () -> ledger.correct(-1, 0, 10, 1));
        refused("6 attribute", INDEX, () -> ledger.correct(0, 3, 10, 1));
        refused("6 attribute", INDEX, () -> ledger.correct(0, -1, 100, 1));
        refused("6 day -1", ARGUMENT, () -> ledger.correct(0, 0, -1, 1));
        refused("6 day 100", ARGUMENT, () -> ledger.correct(0, 0, 100, 1));
        refused("6 day before", ELEMENT, () -> ledger.correct(0, 0, 9, 1));
        refused("6 day after", ELEMENT, () -> ledger.correct(0, 0, 30, 1));
        refused("6 other attribute", ELEMENT, () -> ledger.correct(0, 1, 20, 1));
        ledger.retract(0, 0, 20, 21);
        refused("6 retracted day", ELEMENT, () -> ledger.correct(0, 0, 20, 1));
        due("6 a refusal has no tick", 2, () -> ledger.clock());
        FactLedger full = full();
        refused("6 61st", STATE, () -> full.correct(0, 0, 10, 1));
        refused("6 unknown before 61st", ELEMENT, () -> full.correct(0, 0, 9, 1));
        refused("6 day before 61st", ARGUMENT, () -> full.correct(0, 0, 100, 1));
        due("6 a refusal changes nothing", 60, () -> full.valueAt(0, 0, 10, 60));
    }

    private static void clock() {
        FactLedger ledger = withEntities(1);
        due("7 before the first", 0, () -> ledger.clock());
        for (int tick = 1; tick <= 60; tick++) {
            int want = tick;
            ledger.tell(0, 0, 1, tick, tick + 1);
            due("7 clock", want, () -> ledger.clock());
        }
    }

    private static void operations() {
        FactLedger ledger = withEntities(6);
        ledger.tell(5, 2, 1, 0, 100);
        ledger.tell(3, 0, 1, 0, 100);
        ledger.retract(5, 2, 0, 50);
        ledger.correct(3, 0, 7, 9);
        due("8 tell", 't', () -> ledger.operationAt(1));
        due("8 tell", 't', () -> ledger.operationAt(2));
        due("8 retract", 'r', () -> ledger.operationAt(3));
        due("8 correct", 'c', () -> ledger.operationAt(4));
        due("9 entity", 5, () -> ledger.entityOf(1));
        due("9 entity", 3, () -> ledger.entityOf(2));
        due("9 entity", 5, () -> ledger.entityOf(3));
        due("9 entity", 3, () -> ledger.entityOf(4));
        for (int wrong : new int[] {LEAST, -1, 0, 5, 60, 61, MOST}) {
            refused("8 tick " + wrong, ARGUMENT, () -> ledger.operationAt(wrong));
            refused("9 tick " + wrong, ARGUMENT, () -> ledger.entityOf(wrong));
        }
        ledger.purge(4);
        due("8 behind the horizon", 't', () -> ledger.operationAt(1));
        due("9 behind the horizon", 5, () -> ledger.entityOf(1));
        FactLedger full = full();
        due("8 tick 60", 't', () -> full.operationAt(60));
        due("9 tick 60", 0, () -> full.entityOf(60));
        refused("8 tick 61", ARGUMENT, () -> full.operationAt(61));
        refused("9 tick 61", ARGUMENT, () -> full.entityOf(61));
    }

    private static void facts() {
        FactLedger ledger = withPast();
        due("10 facts", 7, () -> ledger.factCount());
        due("11 open facts", 3, () -> ledger.openCount());
        due("12-16 fact 0", "7:10-30@1/2", () -> fact(ledger, 0));
        due("12-16 fact 1", "7:10-15@2/4", () -> fact(ledger, 1));
        due("12-16 fact 2", "7:20-30@2/3", () -> fact(ledger, 2));
        due("12-16 fact 3", "8:15-20@2/3", () -> fact(ledger, 3));
        due("12-16 fact 4", "8:15-18@3/-1", () -> fact(ledger, 4));
        due("12-16 fact 5", "7:25-30@3/-1", () -> fact(ledger, 5));
        due("12-16 fact 6", "9:10-15@4/-1", () -> fact(ledger, 6));
        refused("12 fact 7", ELEMENT, () -> ledger.factValue(7));
    }

    private static void factRefusals() {
        FactLedger ledger = withPast();
        ledger.purge(2);
        for (int wrong : new int[] {LEAST, -1, 0, 7, 8, 180, MOST}) {
            refused("12 fact " + wrong, ELEMENT, () -> ledger.factValue(wrong));
            refused("13 fact " + wrong, ELEMENT, () -> ledger.factFrom(wrong));
            refused("14 fact " + wrong, ELEMENT, () -> ledger.factTo(wrong));
            refused("15 fact " + wrong, ELEMENT, () -> ledger.openedAt(wrong));
            refused("16 fact " + wrong, ELEMENT, () -> ledger.closedAt(wrong));
        }
    }

    private static void mostFacts() {
        FactLedger ledger = withEntities(1);
        for (int attribute = 0; attribute < 2; attribute++) {
            ledger.tell(0, attribute, 0, 0, 100);
            for (int day = 98; day > 98 - 2 * 29; day -= 2) {
                // A day out of the middle of a fact: each operation opens three facts.
                ledger.tell(0, attribute, day, day, day + 1);
            }
        }
        due("10 most facts", 2 * (1 + 29 * 3), () -> ledger.factCount());
        due("11 most open facts", 2 * (1 + 29 * 2), () -> ledger.openCount());
        due("12 last fact", "42:42-43@60/-1", () -> fact(ledger, 175));
        refused("12 no further fact", ELEMENT, () -> ledger.factValue(176));
        due("42 most facts", true, () -> ledger.isConsistent());
        due("17 most facts", 58, () -> ledger.purge(60));
    }

    private static void purge() {
        FactLedger ledger = withPast();
        due("17 tick 0", 0, () -> ledger.purge(0));
        due("17 nothing is closed in tick 1", 0, () -> ledger.purge(1));
        due("17 closed in tick 2", 1, () -> ledger.purge(2));
        due("18 horizon", 2, () -> ledger.horizon());
        due("17 same tick again", 0, () -> ledger.purge(2));
        refused("17 less than the horizon", ARGUMENT, () -> ledger.purge(1));
        refused("17 tick -1", ARGUMENT, () -> ledger.purge(-1));
        refused("17 after the clock", ARGUMENT, () -> ledger.purge(5));
        refused("17 far", ARGUMENT, () -> ledger.purge(MOST));
        refused("17 far", ARGUMENT, () -> ledger.purge(LEAST));
        due("18 a refusal changes nothing", 2, () -> ledger.horizon());
        due("10 kept facts", 6, () -> ledger.factCount());
        due("17 closed in tick 3 and 4", 3, () -> ledger.purge(4));
        due("18 horizon", 4, () -> ledger.horizon());
        due("10 kept facts", 3, () -> ledger.factCount());
        due("11 open facts", 3, () -> ledger.openCount());
        refused("12 purged", ELEMENT, () -> ledger.factValue(3));
        due("12 numbers stay", "8:15-18@3/-1", () -> fact(ledger, 4));
        ledger.tell(0, 1, 1, 15, 18);
        due("12 next number", "1:15-18@5/-1", () -> fact(ledger, 7));
        due("17 closed in tick 5", 1, () -> ledger.purge(5));
    }

    private static void horizonCutsQuestions() {
        FactLedger ledger = withPast();
        ledger.purge(3);
        refused("19 horizon", HORIZON, () -> ledger.isKnown(0, 1, 12, 2));
        refused("20 horizon", HORIZON, () -> ledger.valueAt(0, 1, 12, 2));
        refused("20 horizon before unknown", HORIZON, () -> ledger.valueAt(0, 0, 12, 0));
        refused("21 horizon", HORIZON, () -> ledger.valueByReplay(0, 1, 12, 2));
        refused("22 horizon", HORIZON, () -> ledger.knownDays(0, 1, 2));
        refused("23 horizon", HORIZON, () -> ledger.periodCount(0, 1, 2));
        refused("24 horizon", HORIZON, () -> ledger.periodFrom(0, 1, 2, 0));
        refused("24 horizon before period", HORIZON, () -> ledger.periodFrom(0, 1, 2, -1));
        refused("25 horizon", HORIZON, () -> ledger.periodTo(0, 1, 2, 0));
        refused("26 horizon", HORIZON, () -> ledger.periodValue(0, 1, 2, 0));
        refused("27 horizon", HORIZON, () -> ledger.integral(0, 1, 2));
        refused("28 horizon", HORIZON, () -> ledger.changedDays(0, 1, 2, 4));
        refused("28 horizon", HORIZON, () -> ledger.changedDays(0, 1, 4, 2));
        refused("28 range before horizon", ARGUMENT, () -> ledger.changedDays(0, 1, 2, 5));
        refused("29 horizon", HORIZON, () -> ledger.total(1, 12, 2));
        refused("30 horizon", HORIZON, () -> ledger.meanValue(1, 12, 2));
        refused("31 horizon", HORIZON, () -> ledger.joinCount(0, 1, 1, 1, 2));
        refused("32 horizon", HORIZON, () -> ledger.joinFrom(0, 1, 1, 1, 2, 0));
        refused("33 horizon", HORIZON, () -> ledger.joinTo(0, 1, 1, 1, 2, 0));
        refused("34 horizon", HORIZON, () -> ledger.commonDays(0, 1, 1, 1, 2));
        refused("35 horizon", HORIZON, () -> ledger.agreeDays(0, 1, 1, 1, 2));
        refused("40 horizon", HORIZON, () -> ledger.writePeriods(0, 1, 2));
        due("20 as of the horizon", 7, () -> ledger.valueAt(0, 1, 12, 3));
        due("21 as of the horizon", 7, () -> ledger.valueByReplay(0, 1, 12, 3));
        due("23 as of the horizon", "10-15=7 15-18=8 25-30=7", () -> periodsOf(ledger, 0, 1, 3));
        due("28 from the horizon", 5, () -> ledger.changedDays(0, 1, 3, 4));
        due("42 after a purge", true, () -> ledger.isConsistent());
    }

    private static void isKnown() {
        FactLedger ledger = withPast();
        due("19 tick 0", false, () -> ledger.isKnown(0, 1, 10, 0));
        due("19 first day", true, () -> ledger.isKnown(0, 1, 10, 1));
        due("19 day before", false, () -> ledger.isKnown(0, 1, 9, 1));
        due("19 last day", true, () -> ledger.isKnown(0, 1, 29, 1));
        due("19 day after", false, () -> ledger.isKnown(0, 1, 30, 1));
        due("19 before the retraction", true, () -> ledger.isKnown(0, 1, 18, 2));
        due("19 retracted", false, () -> ledger.isKnown(0, 1, 18, 3));
        due("19 later", false, () -> ledger.isKnown(0, 1, 18, 4));
        due("19 other attribute", false, () -> ledger.isKnown(0, 0, 12, 4));
        due("19 other entity", false, () -> ledger.isKnown(1, 1, 12, 4));
    }

    private static void values() {
        FactLedger ledger = withPast();
        int[][] due = {{12, 1, 7}, {15, 1, 7}, {15, 2, 8}, {14, 2, 7}, {19, 2, 8}, {20, 2, 7},
            {17, 3, 8}, {25, 3, 7}, {12, 3, 7}, {12, 4, 9}, {15, 4, 8}, {29, 4, 7}};
        for (int[] row : due) {
            due("20 day " + row[0], row[2], () -> ledger.valueAt(0, 1, row[0], row[1]));
            due("21 day " + row[0], row[2], () -> ledger.valueByReplay(0, 1, row[0], row[1]));
        }
        int[][] unknown = {{12, 0}, {9, 1}, {30, 1}, {18, 3}, {24, 4}};
        for (int[] row : unknown) {
            refused("20 day " + row[0], ELEMENT, () -> ledger.valueAt(0, 1, row[0], row[1]));
            refused("21 day " + row[0], ELEMENT, () -> ledger.valueByReplay(0, 1, row[0], row[1]));
        }
        refused("20 other attribute", ELEMENT, () -> ledger.valueAt(0, 2, 12, 4));
        refused("21 other attribute", ELEMENT, () -> ledger.valueByReplay(0, 2, 12, 4));
    }

    private static void dayQuestionsRefuse() {
        FactLedger ledger = withPast();
        int[][] noAttribute = {{2, 1}, {-1, 1}, {0, 3}, {1, -1}, {6, 0}, {LEAST, MOST}};
        for (int[] row : noAttribute) {
            refused("19 index", INDEX, () -> ledger.isKnown(row[0], row[1], 100, 5));
            refused("20 index", INDEX, () -> ledger.valueAt(row[0], row[1], 100, 5));
            refused("21 index", INDEX, () -> ledger.valueByReplay(row[0], row[1], 100, 5));
        }
        int[][] outOfRange = {{-1, 1}, {100, 1}, {12, -1}, {12, 5}, {LEAST, 1}, {12, MOST}};
        ledger.purge(1);
        for (int[] row : outOfRange) {
            refused("19 range", ARGUMENT, () -> ledger.isKnown(0, 1, row[0], row[1]));
            refused("20 range", ARGUMENT, () -> ledger.valueAt(0, 1, row[0], row[1]));
            refused("21 range", ARGUMENT, () -> ledger.valueByReplay(0, 1, row[0], row[1]));
        }
        refused("19 day before horizon", ARGUMENT, () -> ledger.isKnown(0, 1, 100, 0));
        refused("20 day before horizon", ARGUMENT, () -> ledger.valueAt(0, 1, 100, 0));
        refused("21 day before horizon", ARGUMENT, () -> ledger.valueByReplay(0, 1, 100, 0));
    }

    private static void tickQuestionsRefuse() {
        FactLedger ledger = withPast();
        int[][] noAttribute = {{2, 1}, {-1, 1}, {0, 3}, {1, -1}, {6, 0}, {LEAST, MOST}};
        for (int[] row : noAttribute) {
            refused("22 index", INDEX, () -> ledger.knownDays(row[0], row[1], 5));
            refused("23 index", INDEX, () -> ledger.periodCount(row[0], row[1], 5));
            refused("24 index", INDEX, () -> ledger.periodFrom(row[0], row[1], 5, 0));
            refused("25 index", INDEX, () -> ledger.periodTo(row[0], row[1], 5, 0));
            refused("26 index", INDEX, () -> ledger.periodValue(row[0], row[1], 5, 0));
            refused("27 index", INDEX, () -> ledger.integral(row[0], row[1], 5));
            refused("28 index", INDEX, () -> ledger.changedDays(row[0], row[1], 5, 5));
            refused("40 index", INDEX, () -> ledger.writePeriods(row[0], row[1], 5));
        }
        for (int tick : new int[] {LEAST, -1, 5, MOST}) {
            refused("22 range", ARGUMENT, () -> ledger.knownDays(0, 1, tick));
            refused("23 range", ARGUMENT, () -> ledger.periodCount(0, 1, tick));
            refused("24 range", ARGUMENT, () -> ledger.periodFrom(0, 1, tick, 9));
            refused("25 range", ARGUMENT, () -> ledger.periodTo(0, 1, tick, 9));
            refused("26 range", ARGUMENT, () -> ledger.periodValue(0, 1, tick, 9));
            refused("27 range", ARGUMENT, () -> ledger.integral(0, 1, tick));
            refused("28 range", ARGUMENT, () -> ledger.changedDays(0, 1, tick, 1));
            refused("28 range", ARGUMENT, () -> ledger.changedDays(0, 1, 1, tick));
            refused("40 range", ARGUMENT, () -> ledger.writePeriods(0, 1, tick));
        }
        for (int index : new int[] {LEAST, -1, 3, 100, MOST}) {
            refused("24 period", ELEMENT, () -> ledger.periodFrom(0, 1, 4, index));
            refused("25 period", ELEMENT, () -> ledger.periodTo(0, 1, 4, index));
            refused("26 period", ELEMENT, () -> ledger.periodValue(0, 1, 4, index));
        }
        refused("24 no period", ELEMENT, () -> ledger.periodFrom(0, 1, 0, 0));
    }

    private static void knownDays() {
        FactLedger ledger = withPast();
        int[] due = {0, 20, 20, 13, 13};
        for (int tick = 0; tick < due.length; tick++) {
            int at = tick;
            due("22 as of " + at, due[at], () -> ledger.knownDays(0, 1, at));
        }
        due("22 other attribute", 0, () -> ledger.knownDays(0, 2, 4));
        due("22 other entity", 0, () -> ledger.knownDays(1, 1, 4));
        ledger.tell(1, 1, 0, 0, 100);
        due("22 all days", 100, () -> ledger.knownDays(1, 1, 5));
    }

    private static void periods() {
        FactLedger ledger = withPast();
        due("23-26 as of 0", "", () -> periodsOf(ledger, 0, 1, 0));
        due("23-26 as of 1", "10-30=7", () -> periodsOf(ledger, 0, 1, 1));
        due("23-26 as of 2", "10-15=7 15-20=8 20-30=7", () -> periodsOf(ledger, 0, 1, 2));
        due("23-26 as of 3", "10-15=7 15-18=8 25-30=7", () -> periodsOf(ledger, 0, 1, 3));
        due("23-26 as of 4", "10-15=9 15-18=8 25-30=7", () -> periodsOf(ledger, 0, 1, 4));
        ledger.tell(0, 1, 9, 15, 18);
        due("23 from several facts", "10-18=9 25-30=7", () -> periodsOf(ledger, 0, 1, 5));
        ledger.tell(0, 1, 0, 0, 100);
        due("23 the value 0", "0-100=0", () -> periodsOf(ledger, 0, 1, 6));
        ledger.retract(0, 1, 1, 99);
        due("23 the outer days", "0-1=0 99-100=0", () -> periodsOf(ledger, 0, 1, 7));
        FactLedger many = withEntities(1);
        many.tell(0, 0, LEAST + 1, 0, 100);
        for (int i = 0; i < 50; i++) {
            many.tell(0, 0, LEAST, 2 * i, 2 * i + 1);
        }
        due("23 a hundred periods", 100, () -> many.periodCount(0, 0, 51));
        due("26 the last of them", LEAST + 1, () -> many.periodValue(0, 0, 51, 99));
        due("24 the last of them", 99, () -> many.periodFrom(0, 0, 51, 99));
        due("25 the last of them", 100, () -> many.periodTo(0, 0, 51, 99));
    }

    private static void integral() {
        FactLedger ledger = withPast();
        long[] due = {0, 140, 145, 94, 104};
        for (int tick = 0; tick < due.length; tick++) {
            int at = tick;
            due("27 as of " + at, due[at], () -> ledger.integral(0, 1, at));
        }
        ledger.tell(1, 0, MOST, 0, 100);
        due("27 most", 214748364700L, () -> ledger.integral(1, 0, 5));
        ledger.tell(1, 0, LEAST, 0, 100);
        due("27 least", -214748364800L, () -> ledger.integral(1, 0, 6));
    }

    private static void changedDays() {
        FactLedger ledger = withPast();
        int[][] due = {{0, 0, 0}, {0, 1, 20}, {1, 0, 20}, {1, 2, 5}, {2, 3, 7}, {3, 4, 5},
            {1, 3, 10}, {1, 4, 15}, {4, 0, 13}, {4, 4, 0}};
        for (int[] row : due) {
            due("28 " + row[0] + " " + row[1], row[2],
                    () -> ledger.changedDays(0, 1, row[0], row[1]));
        }
        ledger.tell(0, 1, 0, 0, 10);
        due("28 the value 0 and none", 10, () -> ledger.changedDays(0, 1, 4, 5));
        ledger.correct(0, 1, 0, 0);
        due("28 other fact, same value", 0, () -> ledger.changedDays(0, 1, 5, 6));
    }

    private static void total() {
        FactLedger ledger = withEntities(3);
        due("29 none", 0, () -> ledger.total(0, 0, 0));
        ledger.tell(0, 0, MOST, 0, 10);
        ledger.tell(1, 0, 1, 0, 5);
        ledger.tell(2, 0, -1, 0, 5);
        due("29 as of 1", MOST, () -> ledger.total(0, 0, 1));
        refused("29 leaves at entity 1", ARITHMETIC, () -> ledger.total(0, 0, 2));
        refused("29 comes back at entity 2", ARITHMETIC, () -> ledger.total(0, 0, 3));
        due("29 other day", MOST, () -> ledger.total(0, 5, 3));
        due("29 unknown day", 0, () -> ledger.total(0, 10, 3));
        due("29 other attribute", 0, () -> ledger.total(1, 0, 3));
        ledger.tell(0, 0, LEAST, 0, 10);
        due("29 ascending order", LEAST, () -> ledger.total(0, 0, 4));
        ledger.tell(1, 0, -1, 0, 5);
        refused("29 leaves below", ARITHMETIC, () -> ledger.total(0, 0, 5));
        due("29 as of before", LEAST, () -> ledger.total(0, 0, 4));
        ledger.tell(1, 0, MOST, 0, 5);
        due("29 all three", -2, () -> ledger.total(0, 0, 6));
        FactLedger six = withEntities(6);
        for (int entity = 0; entity < 6; entity++) {
            six.tell(entity, 2, 1 << entity, 99, 100);
        }
        due("29 six entities", 63, () -> six.total(2, 99, 6));
        due("30 six entities", 10.5, () -> six.meanValue(2, 99, 6));
        due("29 three ticks", 7, () -> six.total(2, 99, 3));
    }

    private static void meanValue() {
        FactLedger ledger = withEntities(3);
        refused("30 none", ARITHMETIC, () -> ledger.meanValue(0, 0, 0));
        ledger.tell(0, 0, 1, 0, 10);
        ledger.tell(1, 0, 2, 0, 5);
        ledger.tell(2, 0, 2, 0, 3);
        due("30 one", 1.0, () -> ledger.meanValue(0, 9, 3));
        due("30 two", 1.5, () -> ledger.meanValue(0, 4, 3));
        due("30 three", 5.0 / 3.0, () -> ledger.meanValue(0, 0, 3));
        due("30 as of 1", 1.0, () -> ledger.meanValue(0, 0, 1));
        refused("30 unknown day", ARITHMETIC, () -> ledger.meanValue(0, 10, 3));
        refused("30 other attribute", ARITHMETIC, () -> ledger.meanValue(2, 0, 3));
        ledger.tell(0, 0, MOST, 0, 10);
        ledger.tell(1, 0, MOST, 0, 10);
        due("30 a long sum", (double) MOST, () -> ledger.meanValue(0, 9, 5));
        ledger.tell(0, 0, -3, 0, 10);
        ledger.tell(1, 0, 3, 0, 10);
        due("30 mean 0", 0.0, () -> ledger.meanValue(0, 9, 7));
    }

    private static void allEntitiesRefuse() {
        FactLedger ledger = withPast();
        ledger.purge(1);
        for (int attribute : new int[] {LEAST, -1, 3, MOST}) {
            refused("29 attribute", INDEX, () -> ledger.total(attribute, 100, 5));
            refused("30 attribute", INDEX, () -> ledger.meanValue(attribute, 100, 5));
        }
        int[][] outOfRange = {{-1, 1}, {100, 1}, {12, -1}, {12, 5}, {100, 0}, {LEAST, MOST}};
        for (int[] row : outOfRange) {
            refused("29 range", ARGUMENT, () -> ledger.total(1, row[0], row[1]));
            refused("30 range", ARGUMENT, () -> ledger.meanValue(1, row[0], row[1]));
        }
        refused("29 horizon", HORIZON, () -> ledger.total(1, 12, 0));
        refused("30 horizon before none", HORIZON, () -> ledger.meanValue(1, 12, 0));
    }

    private static void joins() {
        FactLedger ledger = withEntities(2);
        ledger.tell(0, 0, 1, 0, 50);
        ledger.tell(1, 2, 1, 20, 70);
        ledger.tell(1, 2, 2, 40, 45);
        ledger.tell(0, 0, 1, 30, 35);
        ledger.tell(0, 0, 2, 43, 44);
        due("31-33 as of 1", "", () -> joinOf(ledger, 0, 2, 1));
        due("31-33 as of 2", "20-50", () -> joinOf(ledger, 0, 2, 2));
        due("31-33 as of 3", "20-40 40-45 45-50", () -> joinOf(ledger, 0, 2, 3));
        due("31-33 several facts", "20-40 40-45 45-50", () -> joinOf(ledger, 0, 2, 4));
        due("31-33 as of 5", "20-40 40-43 43-44 44-45 45-50", () -> joinOf(ledger, 0, 2, 5));
        due("31 the other way", 5, () -> ledger.joinCount(1, 2, 0, 0, 5));
        due("31 with itself", 3, () -> ledger.joinCount(0, 0, 0, 0, 5));
        due("31 nothing in common", 0, () -> ledger.joinCount(0, 0, 1, 1, 5));
        due("34 as of 1", 0, () -> ledger.commonDays(0, 0, 1, 2, 1));
        due("34 as of 5", 30, () -> ledger.commonDays(0, 0, 1, 2, 5));
        due("34 with itself", 50, () -> ledger.commonDays(0, 0, 0, 0, 5));
        due("35 as of 2", 30, () -> ledger.agreeDays(0, 0, 1, 2, 2));
        due("35 as of 3", 25, () -> ledger.agreeDays(0, 0, 1, 2, 3));
        due("35 as of 5", 26, () -> ledger.agreeDays(0, 0, 1, 2, 5));
        due("35 with itself", 50, () -> ledger.agreeDays(0, 0, 0, 0, 5));
        ledger.retract(1, 2, 25, 30);
        due("31-33 a gap", "20-25 30-40 40-43 43-44 44-45 45-50", () -> joinOf(ledger, 0, 2, 6));
        ledger.tell(0, 1, 0, 0, 10);
        due("35 the value 0 and none", 0, () -> ledger.agreeDays(0, 1, 1, 1, 7));
    }

    private static void joinsRefuse() {
        FactLedger ledger = withPast();
        int[][] noAttribute = {{2, 1, 0, 1}, {0, 1, 2, 1}, {-1, 1, 0, 1}, {0, 1, -1, 1},
            {0, 3, 0, 1}, {0, 1, 0, 3}, {1, -1, 0, 1}, {0, 1, 1, -1}};
        for (int[] r : noAttribute) {
            refused("31 index", INDEX, () -> ledger.joinCount(r[0], r[1], r[2], r[3], 5));
            refused("32 index", INDEX, () -> ledger.joinFrom(r[0], r[1], r[2], r[3], 5, 0));
            refused("33 index", INDEX, () -> ledger.joinTo(r[0], r[1], r[2], r[3], 5, 0));
            refused("34 index", INDEX, () -> ledger.commonDays(r[0], r[1], r[2], r[3], 5));
            refused("35 index", INDEX, () -> ledger.agreeDays(r[0], r[1], r[2], r[3], 5));
        }
        for (int tick : new int[] {LEAST, -1, 5, MOST}) {
            refused("31 range", ARGUMENT, () -> ledger.joinCount(0, 1, 0, 1, tick));
            refused("32 range", ARGUMENT, () -> ledger.joinFrom(0, 1, 0, 1, tick, 9));
            refused("33 range", ARGUMENT, () -> ledger.joinTo(0, 1, 0, 1, tick, 9));
            refused("34 range", ARGUMENT, () -> ledger.commonDays(0, 1, 0, 1, tick));
            refused("35 range", ARGUMENT, () -> ledger.agreeDays(0, 1, 0, 1, tick));
        }
        for (int index : new int[] {LEAST, -1, 3, 100, MOST}) {
            refused("32 joint period", ELEMENT, () -> ledger.joinFrom(0, 1, 0, 1, 4, index));
            refused("33 joint period", ELEMENT, () -> ledger.joinTo(0, 1, 0, 1, 4, index));
        }
        ledger.purge(1);
        refused("32 horizon first", HORIZON, () -> ledger.joinFrom(0, 1, 0, 1, 0, 9));
        refused("33 horizon first", HORIZON, () -> ledger.joinTo(0, 1, 0, 1, 0, 9));
    }

    private static void versions() {
        FactLedger ledger = withPast();
        due("36-39 day 0", "0:?", () -> versionsOf(ledger, 0));
        due("36-39 day 12", "0:? 1:7 4:9", () -> versionsOf(ledger, 12));
        due("36-39 day 15", "0:? 1:7 2:8", () -> versionsOf(ledger, 15));
        due("36-39 day 18", "0:? 1:7 2:8 3:?", () -> versionsOf(ledger, 18));
        due("36-39 day 29", "0:? 1:7", () -> versionsOf(ledger, 29));
        ledger.tell(0, 1, 8, 18, 19);
        due("36-39 known again", "0:? 1:7 2:8 3:? 5:8", () -> versionsOf(ledger, 18));
        ledger.tell(0, 1, 0, 99, 100);
        due("36-39 the value 0", "0:? 6:0", () -> versionsOf(ledger, 99));
        ledger.purge(2);
        due("36-39 from the horizon", "2:8 3:? 5:8", () -> versionsOf(ledger, 18));
        ledger.purge(6);
        due("36-39 horizon at the clock", "6:8", () -> versionsOf(ledger, 18));
        due("36-39 horizon at the clock", "6:?", () -> versionsOf(ledger, 20));
        FactLedger full = full();
        due("36 a version a tick", 61, () -> full.versionCount(0, 0, 10));
        due("37 the last of them", 60, () -> full.versionTick(0, 0, 10, 60));
        due("39 the last of them", 60, () -> full.versionValue(0, 0, 10, 60));
        due("38 the first of them", false, () -> full.isVersionKnown(0, 0, 10, 0));
        due("36 other entity", 1, () -> full.versionCount(1, 0, 10));
        refused("37 no such version", ELEMENT, () -> full.versionTick(0, 0, 10, 61));
    }

    private static void versionsRefuse() {
        FactLedger ledger = withPast();
        int[][] noAttribute = {{2, 1}, {-1, 1}, {0, 3}, {1, -1}, {LEAST, MOST}};
        for (int[] row : noAttribute) {
            refused("36 index", INDEX, () -> ledger.versionCount(row[0], row[1], 100));
            refused("37 index", INDEX, () -> ledger.versionTick(row[0], row[1], 100, 0));
            refused("38 index", INDEX, () -> ledger.isVersionKnown(row[0], row[1], 100, 0));
            refused("39 index", INDEX, () -> ledger.versionValue(row[0], row[1], 100, 0));
        }
        for (int day : new int[] {LEAST, -1, 100, MOST}) {
            refused("36 range", ARGUMENT, () -> ledger.versionCount(0, 1, day));
            refused("37 range", ARGUMENT, () -> ledger.versionTick(0, 1, day, -1));
            refused("38 range", ARGUMENT, () -> ledger.isVersionKnown(0, 1, day, -1));
            refused("39 range", ARGUMENT, () -> ledger.versionValue(0, 1, day, -1));
        }
        for (int index : new int[] {LEAST, -1, 3, 60, 61, MOST}) {
            refused("37 version", ELEMENT, () -> ledger.versionTick(0, 1, 12, index));
            refused("38 version", ELEMENT, () -> ledger.isVersionKnown(0, 1, 12, index));
            refused("39 version", ELEMENT, () -> ledger.versionValue(0, 1, 12, index));
        }
        refused("39 no value in it", ELEMENT, () -> ledger.versionValue(0, 1, 12, 0));
        due("38 no value in it", false, () -> ledger.isVersionKnown(0, 1, 12, 0));
    }

    private static void line() {
        FactLedger ledger = withEntities(1);
        ledger.tell(0, 0, 7, 0, 5);
        ledger.tell(0, 0, -3, 9, 20);
        String line = "0-5=7 9-20=-3";
        due("40 length", line.length(), () -> ledger.writePeriods(0, 0, 2));
        due("41 line", line, () -> lineOf(ledger, line.length()));
        refused("41 after the line", INDEX, () -> ledger.lineAt(line.length()));
        refused("41 -1", INDEX, () -> ledger.lineAt(-1));
        refused("41 far", INDEX, () -> ledger.lineAt(MOST));
        refused("41 far", INDEX, () -> ledger.lineAt(LEAST));
        refused("40 tick", ARGUMENT, () -> ledger.writePeriods(0, 0, 3));
        refused("40 entity", INDEX, () -> ledger.writePeriods(1, 0, 2));
        due("41 refusals leave the line", line, () -> lineOf(ledger, line.length()));
        ledger.tell(0, 0, 1, 0, 100);
        due("41 the line stays when facts change", line, () -> lineOf(ledger, line.length()));
        due("40 shorter", 7, () -> ledger.writePeriods(0, 0, 3));
        due("41 in place of the one before", "0-100=1", () -> lineOf(ledger, 7));
        refused("41 nothing is left of it", INDEX, () -> ledger.lineAt(7));
        due("40 no period", 0, () -> ledger.writePeriods(0, 0, 0));
        refused("41 empty again", INDEX, () -> ledger.lineAt(0));
        int[] numbers = {0, 9, 10, -10, 105, 1000000000, 999999999, MOST, LEAST, -1};
        for (int number : numbers) {
            ledger.tell(0, 0, number, 98, 100);
            int now = ledger.clock();
            String want = "0-98=1 98-100=" + number;
            due("40 " + number, want.length(), () -> ledger.writePeriods(0, 0, now));
            due("41 " + number, want, () -> lineOf(ledger, want.length()));
        }
    }

    private static void isConsistent() {
        due("42 no entities", true, () -> new FactLedger().isConsistent());
        due("42 nothing known", true, () -> withEntities(6).isConsistent());
        due("42 past", true, () -> withPast().isConsistent());
        due("42 full", true, () -> full().isConsistent());
        FactLedger ledger = withPast();
        ledger.purge(4);
        ledger.tell(1, 2, 3, 0, 100);
        due("42 after a purge", true, () -> ledger.isConsistent());
    }
}
