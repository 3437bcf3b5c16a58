import java.lang.reflect.Array;
import java.lang.reflect.Field;

/**
 * That isConsistent can answer false. No call of the face leads there, so the test spoils the
 * private columns of a ledger; where they change their names, it changes with them.
 */
public final class SpoiledTest {
    private static final Check CHECK = new Check();

    private SpoiledTest() {
    }

    public static void main(String[] args) throws ReflectiveOperationException {
        due("left alone", true, ledger());
        overlaps();
        values();
        days();
        others();
        CHECK.end();
    }

    /**
     * One of two entities: fact 0 is 5 on the days 10 to 19, fact 1 is 5 on 20 to 29; of another
     * attribute fact 2 is 6 on 20 to 29, and closed by fact 3, which is 7. Fact 4 is of the first
     * attribute of the first entity: 8 on day 0.
     */
    private static FactLedger ledger() {
        FactLedger ledger = new FactLedger();
        ledger.addEntity();
        ledger.addEntity();
        ledger.tell(1, 2, 5, 10, 20);
        ledger.tell(1, 2, 5, 20, 30);
        ledger.tell(1, 1, 6, 20, 30);
        ledger.tell(1, 1, 7, 20, 30);
        ledger.tell(0, 0, 8, 0, 1);
        return ledger;
    }

    private static FactLedger spoiled(String part, String column, int index, int value)
            throws ReflectiveOperationException {
        FactLedger ledger = ledger();
        Object object = read(ledger, part);
        Array.setInt(read(object, column), index, value);
        return ledger;
    }

    private static Object read(Object object, String name) throws ReflectiveOperationException {
        Field field = object.getClass().getDeclaredField(name);
        field.setAccessible(true);
        return field.get(object);
    }

    private static void due(String what, boolean want, FactLedger ledger) {
        CHECK.due("42 " + what, () -> ledger.isConsistent(), want);
    }

    private static void overlaps() throws ReflectiveOperationException {
        // The values are the same, so only the common day tells that something is wrong.
        due("the last day of a fact in common", false, spoiled("facts", "froms", 1, 19));
        due("the first day of a fact in common", false, spoiled("facts", "tos", 0, 21));
        due("all days in common", false, spoiled("facts", "froms", 1, 10));
    }

    private static void values() throws ReflectiveOperationException {
        due("another value by the facts", false, spoiled("facts", "values", 0, 6));
        due("another value by replay", false, spoiled("operations", "values", 2, 6));
        due("the same value by both", true, spoiled("facts", "values", 0, 5));
    }

    private static void days() throws ReflectiveOperationException {
        due("the first day not known by the facts", false, spoiled("facts", "froms", 0, 11));
        due("the last day not known by the facts", false, spoiled("facts", "tos", 1, 29));
        due("day 0 known by the facts alone", false, spoiled("facts", "froms", 0, 0));
        due("day 99 known by the facts alone", false, spoiled("facts", "tos", 1, 100));
        due("a day known by replay alone", false, spoiled("operations", "tos", 2, 31));
        due("a fact that was closed", false, spoiled("facts", "closings", 1, 4));
    }

    private static void others() throws ReflectiveOperationException {
        due("the value of a closed fact", true, spoiled("facts", "values", 2, 9));
        due("the days of a closed fact", true, spoiled("facts", "tos", 2, 40));
        due("a closed fact that is open", false, spoiled("facts", "closings", 2, -1));
        due("the first attribute of the first entity", false, spoiled("facts", "values", 4, 9));
        due("its day 0", false, spoiled("facts", "froms", 4, 1));
        due("a fact taken from another attribute", false, spoiled("facts", "slots", 3, 5));
    }
}
