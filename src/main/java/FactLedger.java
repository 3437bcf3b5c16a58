import java.util.NoSuchElementException;

/**
 * A ledger of facts about entities in two times: the days on which a fact is valid, and the ticks
 * in which it was believed.
 */
public final class FactLedger {
    /** The fact is open. */
    public static final int NONE = -1;

    private static final int MAX_ENTITIES = 6;
    private static final int ATTRIBUTES = 3;
    private static final int DAYS = 100;
    private static final int MAX_OPERATIONS = 60;

    // The open facts of an attribute are disjoint, so an operation cuts at most one of them at its
    // first day and one at its last day: it opens what is left of these two, and its own fact.
    private static final int MAX_FACTS = 3 * MAX_OPERATIONS;

    // From the horizon 0 to the clock 60.
    private static final int MAX_VERSIONS = MAX_OPERATIONS + 1;

    // The longest entry of a line is "98-100=-2147483648" with the blank before it.
    private static final int MAX_ENTRY = 19;

    private static final char TELLING = 't';
    private static final char RETRACTION = 'r';
    private static final char CORRECTION = 'c';

    private final Operations operations = new Operations();
    private final Facts facts = new Facts();
    private final Line line = new Line();
    private int entities = 0;

    // Rows that the answers are worked out in; nothing in them outlasts a call.
    private final Knowledge first = new Knowledge();
    private final Knowledge second = new Knowledge();
    private final Periods periods = new Periods();
    private final Versions versions = new Versions();

    public FactLedger() {
    }

    // ---- operations

    public int addEntity() throws IllegalStateException {
        if (entities >= MAX_ENTITIES) {
            throw new IllegalStateException("there are 6 entities");
        }
        entities++;
        return entities - 1;
    }

    public int entityCount() {
        return entities;
    }

    public int tell(int entity, int attribute, int value, int from, int to)
            throws IndexOutOfBoundsException, IllegalArgumentException, IllegalStateException {
        requireAttribute(entity, attribute);
        requireDays(from, to);
        requireFreeTick();
        return believe(TELLING, slotOf(entity, attribute), value, from, to);
    }

    public int retract(int entity, int attribute, int from, int to)
            throws IndexOutOfBoundsException, IllegalArgumentException, NoSuchElementException,
            IllegalStateException {
        requireAttribute(entity, attribute);
        requireDays(from, to);
        int slot = slotOf(entity, attribute);
        int lost = facts.countDays(slot, from, to, operations.now());
        if (lost == 0) {
            throw new NoSuchElementException("no value is known on any of these days");
        }
        requireFreeTick();
        int tick = operations.add(RETRACTION, slot, 0, from, to);
        facts.clear(slot, from, to, tick);
        return lost;
    }

    public int correct(int entity, int attribute, int day, int value)
            throws IndexOutOfBoundsException, IllegalArgumentException, NoSuchElementException,
            IllegalStateException {
        requireAttribute(entity, attribute);
        requireDay(day);
        int slot = slotOf(entity, attribute);
        int fact = facts.find(slot, day, operations.now());
        requireKnown(fact != NONE);
        requireFreeTick();
        int from = facts.firstDay(fact);
        int to = facts.dayAfter(fact);
        believe(CORRECTION, slot, value, from, to);
        return to - from;
    }

    public int clock() {
        return operations.now();
    }

    public char operationAt(int tick) throws IllegalArgumentException {
        requireOperation(tick);
        return operations.kind(tick);
    }

    public int entityOf(int tick) throws IllegalArgumentException {
        requireOperation(tick);
        return operations.slot(tick) / ATTRIBUTES;
    }

    // ---- facts

    public int factCount() {
        return facts.countKept();
    }

    public int openCount() {
        return facts.countOpen();
    }

    public int factValue(int fact) throws NoSuchElementException {
        requireFact(fact);
        return facts.value(fact);
    }

    public int factFrom(int fact) throws NoSuchElementException {
        requireFact(fact);
        return facts.firstDay(fact);
    }

    public int factTo(int fact) throws NoSuchElementException {
        requireFact(fact);
        return facts.dayAfter(fact);
    }

    public int openedAt(int fact) throws NoSuchElementException {
        requireFact(fact);
        return facts.opening(fact);
    }

    public int closedAt(int fact) throws NoSuchElementException {
        requireFact(fact);
        return facts.closing(fact);
    }

    public int purge(int tick) throws IllegalArgumentException {
        if (tick < facts.oldestTick() || tick > operations.now()) {
            throw new IllegalArgumentException("the tick is out of range");
        }
        return facts.remove(tick);
    }

    public int horizon() {
        return facts.oldestTick();
    }

    // ---- answers as of a tick

    public boolean isKnown(int entity, int attribute, int day, int tick)
            throws IndexOutOfBoundsException, IllegalArgumentException,
            UnsupportedOperationException {
        requireAttribute(entity, attribute);
        requireDayAndTick(day, tick);
        return facts.find(slotOf(entity, attribute), day, tick) != NONE;
    }

    public int valueAt(int entity, int attribute, int day, int tick)
            throws IndexOutOfBoundsException, IllegalArgumentException,
            UnsupportedOperationException, NoSuchElementException {
        requireAttribute(entity, attribute);
        requireDayAndTick(day, tick);
        int fact = facts.find(slotOf(entity, attribute), day, tick);
        requireKnown(fact != NONE);
        return facts.value(fact);
    }

    public int valueByReplay(int entity, int attribute, int day, int tick)
            throws IndexOutOfBoundsException, IllegalArgumentException,
            UnsupportedOperationException, NoSuchElementException {
        requireAttribute(entity, attribute);
        requireDayAndTick(day, tick);
        operations.replayInto(first, slotOf(entity, attribute), tick);
        requireKnown(first.has(day));
        return first.value(day);
    }

    public int knownDays(int entity, int attribute, int tick)
            throws IndexOutOfBoundsException, IllegalArgumentException,
            UnsupportedOperationException {
        requireAttribute(entity, attribute);
        requireKeptTick(tick);
        return facts.countDays(slotOf(entity, attribute), 0, DAYS, tick);
    }

    public int periodCount(int entity, int attribute, int tick)
            throws IndexOutOfBoundsException, IllegalArgumentException,
            UnsupportedOperationException {
        listPeriods(entity, attribute, tick);
        return periods.size();
    }

    public int periodFrom(int entity, int attribute, int tick, int index)
            throws IndexOutOfBoundsException, IllegalArgumentException,
            UnsupportedOperationException, NoSuchElementException {
        listPeriods(entity, attribute, tick);
        requirePeriod(index);
        return periods.firstDay(index);
    }

    public int periodTo(int entity, int attribute, int tick, int index)
            throws IndexOutOfBoundsException, IllegalArgumentException,
            UnsupportedOperationException, NoSuchElementException {
        listPeriods(entity, attribute, tick);
        requirePeriod(index);
        return periods.dayAfter(index);
    }

    public int periodValue(int entity, int attribute, int tick, int index)
            throws IndexOutOfBoundsException, IllegalArgumentException,
            UnsupportedOperationException, NoSuchElementException {
        listPeriods(entity, attribute, tick);
        requirePeriod(index);
        return first.value(periods.firstDay(index));
    }

    public long integral(int entity, int attribute, int tick)
            throws IndexOutOfBoundsException, IllegalArgumentException,
            UnsupportedOperationException {
        requireAttribute(entity, attribute);
        requireKeptTick(tick);
        facts.readInto(first, slotOf(entity, attribute), tick);
        return first.sum();
    }

    public int changedDays(int entity, int attribute, int tick, int otherTick)
            throws IndexOutOfBoundsException, IllegalArgumentException,
            UnsupportedOperationException {
        requireAttribute(entity, attribute);
        requireTick(tick);
        requireTick(otherTick);
        requireKept(tick);
        requireKept(otherTick);
        int slot = slotOf(entity, attribute);
        facts.readInto(first, slot, tick);
        facts.readInto(second, slot, otherTick);
        return first.countDifferent(second);
    }

    public int total(int attribute, int day, int tick)
            throws IndexOutOfBoundsException, IllegalArgumentException,
            UnsupportedOperationException, ArithmeticException {
        requireAttributeNumber(attribute);
        requireDayAndTick(day, tick);
        long sum = 0;
        for (int entity = 0; entity < entities; entity++) {
            int fact = facts.find(slotOf(entity, attribute), day, tick);
            if (fact != NONE) {
                sum += facts.value(fact);
            }
            if (sum < Integer.MIN_VALUE || sum > Integer.MAX_VALUE) {
                throw new ArithmeticException("the sum leaves the range of int");
            }
        }
        return (int) sum;
    }

    public double meanValue(int attribute, int day, int tick)
            throws IndexOutOfBoundsException, IllegalArgumentException,
            UnsupportedOperationException, ArithmeticException {
        requireAttributeNumber(attribute);
        requireDayAndTick(day, tick);
        long sum = 0;
        int number = 0;
        for (int entity = 0; entity < entities; entity++) {
            int fact = facts.find(slotOf(entity, attribute), day, tick);
            if (fact != NONE) {
                sum += facts.value(fact);
                number++;
            }
        }
        if (number == 0) {
            throw new ArithmeticException("no value was known");
        }
        return (double) sum / (double) number;
    }

    // ---- joins and versions

    public int joinCount(int entity, int attribute, int other, int otherAttribute, int tick)
            throws IndexOutOfBoundsException, IllegalArgumentException,
            UnsupportedOperationException {
        listJointPeriods(entity, attribute, other, otherAttribute, tick);
        return periods.size();
    }

    public int joinFrom(int entity, int attribute, int other, int otherAttribute, int tick,
            int index)
            throws IndexOutOfBoundsException, IllegalArgumentException,
            UnsupportedOperationException, NoSuchElementException {
        listJointPeriods(entity, attribute, other, otherAttribute, tick);
        requirePeriod(index);
        return periods.firstDay(index);
    }

    public int joinTo(int entity, int attribute, int other, int otherAttribute, int tick,
            int index)
            throws IndexOutOfBoundsException, IllegalArgumentException,
            UnsupportedOperationException, NoSuchElementException {
        listJointPeriods(entity, attribute, other, otherAttribute, tick);
        requirePeriod(index);
        return periods.dayAfter(index);
    }

    public int commonDays(int entity, int attribute, int other, int otherAttribute, int tick)
            throws IndexOutOfBoundsException, IllegalArgumentException,
            UnsupportedOperationException {
        readBoth(entity, attribute, other, otherAttribute, tick);
        return first.countCommon(second);
    }

    public int agreeDays(int entity, int attribute, int other, int otherAttribute, int tick)
            throws IndexOutOfBoundsException, IllegalArgumentException,
            UnsupportedOperationException {
        readBoth(entity, attribute, other, otherAttribute, tick);
        return first.countAgreeing(second);
    }

    public int versionCount(int entity, int attribute, int day)
            throws IndexOutOfBoundsException, IllegalArgumentException {
        listVersions(entity, attribute, day);
        return versions.size();
    }

    public int versionTick(int entity, int attribute, int day, int index)
            throws IndexOutOfBoundsException, IllegalArgumentException, NoSuchElementException {
        listVersions(entity, attribute, day);
        requireVersion(index);
        return versions.firstTick(index);
    }

    public boolean isVersionKnown(int entity, int attribute, int day, int index)
            throws IndexOutOfBoundsException, IllegalArgumentException, NoSuchElementException {
        listVersions(entity, attribute, day);
        requireVersion(index);
        return versions.has(index);
    }

    public int versionValue(int entity, int attribute, int day, int index)
            throws IndexOutOfBoundsException, IllegalArgumentException, NoSuchElementException {
        listVersions(entity, attribute, day);
        requireVersion(index);
        requireKnown(versions.has(index));
        return versions.value(index);
    }

    // ---- line and check

    public int writePeriods(int entity, int attribute, int tick)
            throws IndexOutOfBoundsException, IllegalArgumentException,
            UnsupportedOperationException {
        listPeriods(entity, attribute, tick);
        line.write(periods, first);
        return line.size();
    }

    public char lineAt(int index) throws IndexOutOfBoundsException {
        if (index < 0 || index >= line.size()) {
            throw new IndexOutOfBoundsException("there is no such character");
        }
        return line.sign(index);
    }

    public boolean isConsistent() {
        for (int slot = 0; slot < entities * ATTRIBUTES; slot++) {
            if (!isSlotConsistent(slot)) {
                return false;
            }
        }
        return true;
    }

    // ---- what the calls share

    /** The attributes of all entities are numbered through, so that a fact needs one number. */
    private static int slotOf(int entity, int attribute) {
        return entity * ATTRIBUTES + attribute;
    }

    private int believe(char kind, int slot, int value, int from, int to) {
        int tick = operations.add(kind, slot, value, from, to);
        int closed = facts.clear(slot, from, to, tick);
        facts.open(slot, value, from, to, tick);
        return closed;
    }

    private void listPeriods(int entity, int attribute, int tick) {
        // The periods of an attribute are its joint periods with itself.
        listJointPeriods(entity, attribute, entity, attribute, tick);
    }

    private void listJointPeriods(int entity, int attribute, int other, int otherAttribute,
            int tick) {
        readBoth(entity, attribute, other, otherAttribute, tick);
        periods.list(first, second);
    }

    private void readBoth(int entity, int attribute, int other, int otherAttribute, int tick) {
        requireAttribute(entity, attribute);
        requireAttribute(other, otherAttribute);
        requireKeptTick(tick);
        facts.readInto(first, slotOf(entity, attribute), tick);
        facts.readInto(second, slotOf(other, otherAttribute), tick);
    }

    private void listVersions(int entity, int attribute, int day) {
        requireAttribute(entity, attribute);
        requireDay(day);
        versions.list(facts, slotOf(entity, attribute), day, operations.now());
    }

    private boolean isSlotConsistent(int slot) {
        int now = operations.now();
        facts.readInto(first, slot, now);
        operations.replayInto(second, slot, now);
        // Facts that have a day in common have more days together than they make known.
        return facts.countDays(slot, 0, DAYS, now) == first.countCommon(first)
                && first.countDifferent(second) == 0;
    }

    // ---- what the calls demand

    private void requireAttribute(int entity, int attribute) {
        if (entity < 0 || entity >= entities) {
            throw new IndexOutOfBoundsException("there is no such entity");
        }
        requireAttributeNumber(attribute);
    }

    private void requireAttributeNumber(int attribute) {
        if (attribute < 0 || attribute >= ATTRIBUTES) {
            throw new IndexOutOfBoundsException("there is no such attribute");
        }
    }

    private void requireDay(int day) {
        if (day < 0 || day >= DAYS) {
            throw new IllegalArgumentException("the day is out of range");
        }
    }

    private void requireDays(int from, int to) {
        if (from < 0 || to <= from || to > DAYS) {
            throw new IllegalArgumentException("the days are out of range");
        }
    }

    private void requireFreeTick() {
        if (operations.isFull()) {
            throw new IllegalStateException("there have been 60 operations");
        }
    }

    private void requireOperation(int tick) {
        if (tick < 1 || tick > operations.now()) {
            throw new IllegalArgumentException("the tick is out of range");
        }
    }

    private void requireTick(int tick) {
        if (tick < 0 || tick > operations.now()) {
            throw new IllegalArgumentException("the tick is out of range");
        }
    }

    private void requireKept(int tick) {
        if (tick < facts.oldestTick()) {
            throw new UnsupportedOperationException("the tick is less than the horizon");
        }
    }

    private void requireKeptTick(int tick) {
        requireTick(tick);
        requireKept(tick);
    }

    private void requireDayAndTick(int day, int tick) {
        requireDay(day);
        requireKeptTick(tick);
    }

    private void requireFact(int fact) {
        if (!facts.isKept(fact)) {
            throw new NoSuchElementException("there is no such fact");
        }
    }

    private void requireKnown(boolean known) {
        if (!known) {
            throw new NoSuchElementException("no value is known");
        }
    }

    private void requirePeriod(int index) {
        if (index < 0 || index >= periods.size()) {
            throw new NoSuchElementException("there is no such period");
        }
    }

    private void requireVersion(int index) {
        if (index < 0 || index >= versions.size()) {
            throw new NoSuchElementException("there is no such version");
        }
    }

    /** The operations by their ticks. */
    private static final class Operations {
        // The cell 0 of each column stays empty: the first tick is 1.
        private final char[] kinds = new char[MAX_OPERATIONS + 1];
        private final int[] slots = new int[MAX_OPERATIONS + 1];
        private final int[] values = new int[MAX_OPERATIONS + 1];
        private final int[] froms = new int[MAX_OPERATIONS + 1];
        private final int[] tos = new int[MAX_OPERATIONS + 1];
        private int last = 0;

        int now() {
            return last;
        }

        boolean isFull() {
            return last >= MAX_OPERATIONS;
        }

        /** Returns the tick of the operation. A correction comes with the days of its fact. */
        int add(char kind, int slot, int value, int from, int to) {
            if (!isFull()) {
                last++;
                kinds[last] = kind;
                slots[last] = slot;
                values[last] = value;
                froms[last] = from;
                tos[last] = to;
            }
            return last;
        }

        char kind(int tick) {
            return tick >= 1 && tick <= last ? kinds[tick] : ' ';
        }

        int slot(int tick) {
            return tick >= 1 && tick <= last ? slots[tick] : NONE;
        }

        void replayInto(Knowledge knowledge, int slot, int tick) {
            knowledge.forget();
            for (int at = 1; at <= tick && at <= last; at++) {
                if (slots[at] == slot) {
                    knowledge.put(froms[at], tos[at], kinds[at] != RETRACTION, values[at]);
                }
            }
        }
    }

    /** The facts by their numbers, and the horizon. */
    private static final class Facts {
        private final int[] slots = new int[MAX_FACTS];
        private final int[] values = new int[MAX_FACTS];
        private final int[] froms = new int[MAX_FACTS];
        private final int[] tos = new int[MAX_FACTS];
        private final int[] openings = new int[MAX_FACTS];
        private final int[] closings = new int[MAX_FACTS];
        private int count = 0;
        private int horizon = 0;

        void open(int slot, int value, int from, int to, int tick) {
            if (count < MAX_FACTS) {
                slots[count] = slot;
                values[count] = value;
                froms[count] = from;
                tos[count] = to;
                openings[count] = tick;
                closings[count] = NONE;
                count++;
            }
        }

        /** Closes the open facts of some days, keeps their other days; returns how many closed. */
        int clear(int slot, int from, int to, int tick) {
            int closed = 0;
            int before = NONE;
            int after = NONE;
            for (int fact = 0; fact < count; fact++) {
                if (slots[fact] == slot && closings[fact] == NONE
                        && daysWithin(fact, from, to) > 0) {
                    closings[fact] = tick;
                    closed++;
                    before = froms[fact] < from ? fact : before;
                    after = tos[fact] > to ? fact : after;
                }
            }
            // Only the earliest closed fact can reach before the days and only the latest one
            // behind them, so this is the ascending order of the facts' first days.
            if (before != NONE) {
                open(slot, value(before), firstDay(before), from, tick);
            }
            if (after != NONE) {
                open(slot, value(after), to, dayAfter(after), tick);
            }
            return closed;
        }

        /** Returns the fact of a day as of a tick, NONE if there is none. */
        int find(int slot, int day, int tick) {
            for (int fact = 0; fact < count; fact++) {
                if (slots[fact] == slot && isLive(fact, tick)
                        && daysWithin(fact, day, day + 1) > 0) {
                    return fact;
                }
            }
            return NONE;
        }

        int countDays(int slot, int from, int to, int tick) {
            int days = 0;
            for (int fact = 0; fact < count; fact++) {
                if (slots[fact] == slot && isLive(fact, tick)) {
                    days += daysWithin(fact, from, to);
                }
            }
            return days;
        }

        void readInto(Knowledge knowledge, int slot, int tick) {
            knowledge.forget();
            for (int fact = 0; fact < count; fact++) {
                if (slots[fact] == slot && isLive(fact, tick)) {
                    knowledge.put(froms[fact], tos[fact], true, values[fact]);
                }
            }
        }

        int countKept() {
            int kept = 0;
            for (int fact = 0; fact < count; fact++) {
                kept += isKept(fact) ? 1 : 0;
            }
            return kept;
        }

        int countOpen() {
            int open = 0;
            for (int fact = 0; fact < count; fact++) {
                open += closings[fact] == NONE ? 1 : 0;
            }
            return open;
        }

        /** Returns the number of facts that are removed. */
        int remove(int tick) {
            int kept = countKept();
            horizon = tick;
            return kept - countKept();
        }

        int oldestTick() {
            return horizon;
        }

        boolean isKept(int fact) {
            // Facts close behind the horizon only, so it alone tells which have been removed.
            return fact >= 0 && fact < count
                    && (closings[fact] == NONE || closings[fact] > horizon);
        }

        int value(int fact) {
            return cell(values, fact);
        }

        int firstDay(int fact) {
            return cell(froms, fact);
        }

        int dayAfter(int fact) {
            return cell(tos, fact);
        }

        int opening(int fact) {
            return cell(openings, fact);
        }

        int closing(int fact) {
            return cell(closings, fact);
        }

        private boolean isLive(int fact, int tick) {
            return cell(openings, fact) <= tick
                    && (cell(closings, fact) == NONE || cell(closings, fact) > tick);
        }

        private int daysWithin(int fact, int from, int to) {
            int begin = Math.max(firstDay(fact), from);
            int end = Math.min(dayAfter(fact), to);
            return Math.max(end - begin, 0);
        }

        private static int cell(int[] column, int fact) {
            return fact >= 0 && fact < column.length ? column[fact] : NONE;
        }
    }

    /** What is known of one attribute, day by day. */
    private static final class Knowledge {
        private final boolean[] known = new boolean[DAYS];
        private final int[] values = new int[DAYS];

        void forget() {
            put(0, DAYS, false, 0);
        }

        void put(int from, int to, boolean isKnown, int value) {
            for (int day = Math.max(from, 0); day < to && day < DAYS; day++) {
                known[day] = isKnown;
                values[day] = value;
            }
        }

        boolean has(int day) {
            return day >= 0 && day < DAYS && known[day];
        }

        /** Returns the value of a day, 0 if none is known. */
        int value(int day) {
            return has(day) ? values[day] : 0;
        }

        boolean isAsTheDayBefore(int day) {
            return has(day) && has(day - 1) && value(day) == value(day - 1);
        }

        long sum() {
            long sum = 0;
            for (int day = 0; day < DAYS; day++) {
                sum += value(day);
            }
            return sum;
        }

        int countCommon(Knowledge other) {
            int days = 0;
            for (int day = 0; day < DAYS; day++) {
                days += has(day) && other.has(day) ? 1 : 0;
            }
            return days;
        }

        int countAgreeing(Knowledge other) {
            int days = 0;
            for (int day = 0; day < DAYS; day++) {
                days += has(day) && other.has(day) && value(day) == other.value(day) ? 1 : 0;
            }
            return days;
        }

        int countDifferent(Knowledge other) {
            int days = 0;
            for (int day = 0; day < DAYS; day++) {
                days += has(day) != other.has(day) || value(day) != other.value(day) ? 1 : 0;
            }
            return days;
        }
    }

    /** The joint periods of two attributes, in the order of their days. */
    private static final class Periods {
        private final int[] froms = new int[DAYS];
        private final int[] tos = new int[DAYS];
        private int count = 0;

        void list(Knowledge one, Knowledge other) {
            count = 0;
            for (int day = 0; day < DAYS; day++) {
                if (one.isAsTheDayBefore(day) && other.isAsTheDayBefore(day)) {
                    lengthenLast();
                } else if (one.has(day) && other.has(day)) {
                    begin(day);
                }
            }
        }

        int size() {
            return count;
        }

        int firstDay(int index) {
            return index >= 0 && index < count ? froms[index] : NONE;
        }

        int dayAfter(int index) {
            return index >= 0 && index < count ? tos[index] : NONE;
        }

        private void begin(int day) {
            if (count < DAYS) {
                froms[count] = day;
                tos[count] = day + 1;
                count++;
            }
        }

        private void lengthenLast() {
            if (count > 0) {
                tos[count - 1]++;
            }
        }
    }

    /** The versions of a day, in the order of their ticks. */
    private static final class Versions {
        private final int[] ticks = new int[MAX_VERSIONS];
        private final boolean[] known = new boolean[MAX_VERSIONS];
        private final int[] values = new int[MAX_VERSIONS];
        private int count = 0;

        void list(Facts facts, int slot, int day, int now) {
            count = 0;
            for (int tick = facts.oldestTick(); tick <= now; tick++) {
                int fact = facts.find(slot, day, tick);
                boolean isKnown = fact != NONE;
                int value = isKnown ? facts.value(fact) : 0;
                if (count == 0 || has(count - 1) != isKnown || value(count - 1) != value) {
                    begin(tick, isKnown, value);
                }
            }
        }

        int size() {
            return count;
        }

        int firstTick(int index) {
            return index >= 0 && index < count ? ticks[index] : NONE;
        }

        boolean has(int index) {
            return index >= 0 && index < count && known[index];
        }

        /** Returns the value of a version, 0 if none is known. */
        int value(int index) {
            return has(index) ? values[index] : 0;
        }

        private void begin(int tick, boolean isKnown, int value) {
            if (count < MAX_VERSIONS) {
                ticks[count] = tick;
                known[count] = isKnown;
                values[count] = value;
                count++;
            }
        }
    }

    /** The line that periods are written to. */
    private static final class Line {
        private static final long LARGEST_UNIT = 1000000000L;

        private final char[] signs = new char[DAYS * MAX_ENTRY];
        private int length = 0;

        void write(Periods periods, Knowledge knowledge) {
            length = 0;
            for (int index = 0; index < periods.size(); index++) {
                if (index > 0) {
                    put(' ');
                }
                putNumber(periods.firstDay(index));
                put('-');
                putNumber(periods.dayAfter(index));
                put('=');
                putNumber(knowledge.value(periods.firstDay(index)));
            }
        }

        int size() {
            return length;
        }

        char sign(int index) {
            return index >= 0 && index < length ? signs[index] : ' ';
        }

        private void put(char sign) {
            if (length < signs.length) {
                signs[length] = sign;
                length++;
            }
        }

        private void putNumber(int number) {
            // A long, since the least int has no opposite among the ints.
            long size = number;
            if (size < 0) {
                put('-');
                size = -size;
            }
            for (long unit = LARGEST_UNIT; unit > 0; unit /= 10) {
                // No zeros ahead of the digits, but 0 itself has one digit.
                if (size >= unit || unit == 1) {
                    put((char) ('0' + size / unit % 10));
                }
            }
        }
    }
}
