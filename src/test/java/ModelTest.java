import java.util.ArrayList;
import java.util.Comparator;
import java.util.List;
import java.util.Objects;

/**
 * Runs of calls with arguments that a counter picks, each answer compared with that of a model
 * which follows the document's words with lists and snapshots, whatever that costs.
 */
public final class ModelTest {
    private static final int LEDGERS = 400;
    private static final int CALLS = 512;
    private static final String INDEX = "java.lang.IndexOutOfBoundsException";
    private static final String ARGUMENT = "java.lang.IllegalArgumentException";
    private static final String STATE = "java.lang.IllegalStateException";
    private static final String ELEMENT = "java.util.NoSuchElementException";
    private static final String HORIZON = "java.lang.UnsupportedOperationException";
    private static final String ARITHMETIC = "java.lang.ArithmeticException";

    private ModelTest() {
    }

    public static void main(String[] args) {
        Check check = new Check();
        for (int run = 0; run < LEDGERS && check.wrongCount() == 0; run++) {
            new Run(check, run).go();
        }
        check.end();
    }

    /** A fact of the model. */
    private static final class Fact {
        int entity;
        int attribute;
        int value;
        int from;
        int to;
        int opened;
        int closed = -1;
        boolean purged;
    }

    /** The document's words. A method answers what is due: an answer's text or an exception. */
    private static final class Model {
        final List<Fact> facts = new ArrayList<>();
        final List<Integer> entityOfTick = new ArrayList<>();
        final StringBuilder kinds = new StringBuilder();
        /** By tick, then by attribute and day: the known value or null. */
        final List<Integer[][]> snapshots = new ArrayList<>();
        int entities = 0;
        int horizon = 0;
        String line = "";

        Model() {
            snapshots.add(new Integer[18][100]);
        }

        int clock() {
            return kinds.length();
        }

        Integer[] row(int entity, int attribute, int tick) {
            return snapshots.get(tick)[entity * 3 + attribute];
        }

        String attributeFault(int entity, int attribute) {
            boolean exists = entity >= 0 && entity < entities && attribute >= 0 && attribute <= 2;
            return exists ? null : INDEX;
        }

        String dayFault(int day) {
            return day < 0 || day > 99 ? ARGUMENT : null;
        }

        String daysFault(int from, int to) {
            return from < 0 || to <= from || to > 100 ? ARGUMENT : null;
        }

        String tickFault(int tick) {
            return tick < 0 || tick > clock() ? ARGUMENT : null;
        }

        String horizonFault(int tick) {
            return tick < horizon ? HORIZON : null;
        }

        String fullFault() {
            return clock() >= 60 ? STATE : null;
        }

        static String firstOf(String... faults) {
            for (String fault : faults) {
                if (fault != null) {
                    return fault;
                }
            }
            return null;
        }

        String addEntity() {
            if (entities == 6) {
                return STATE;
            }
            return String.valueOf(entities++);
        }

        String tell(int entity, int attribute, int value, int from, int to) {
            String fault = firstOf(attributeFault(entity, attribute), daysFault(from, to),
                    fullFault());
            if (fault != null) {
                return fault;
            }
            return String.valueOf(operate('t', entity, attribute, value, from, to));
        }

        String retract(int entity, int attribute, int from, int to) {
            String fault = firstOf(attributeFault(entity, attribute), daysFault(from, to));
            if (fault != null) {
                return fault;
            }
            int known = 0;
            for (int day = from; day < to; day++) {
                known += row(entity, attribute, clock())[day] == null ? 0 : 1;
            }
            fault = firstOf(known == 0 ? ELEMENT : null, fullFault());
            if (fault != null) {
                return fault;
            }
            operate('r', entity, attribute, 0, from, to);
            return String.valueOf(known);
        }

        String correct(int entity, int attribute, int day, int value) {
            String fault = firstOf(attributeFault(entity, attribute), dayFault(day));
            if (fault != null) {
                return fault;
            }
            Fact found = null;
            for (Fact fact : facts) {
                boolean here = fact.entity == entity && fact.attribute == attribute;
                if (here && fact.closed == -1 && fact.from <= day && day < fact.to) {
                    found = fact;
                }
            }
            fault = firstOf(found == null ? ELEMENT : null, fullFault());
            if (fault != null) {
                return fault;
            }
            operate('c', entity, attribute, value, found.from, found.to);
            return String.valueOf(found.to - found.from);
        }

        int operate(char kind, int entity, int attribute, int value, int from, int to) {
            kinds.append(kind);
            entityOfTick.add(entity);
            List<Fact> closing = new ArrayList<>();
            for (Fact fact : facts) {
                boolean here = fact.entity == entity && fact.attribute == attribute;
                if (here && fact.closed == -1 && fact.from < to && from < fact.to) {
                    closing.add(fact);
                }
            }
            closing.sort(Comparator.comparingInt(fact -> fact.from));
            for (Fact fact : closing) {
                fact.closed = clock();
                if (fact.from < from) {
                    open(entity, attribute, fact.value, fact.from, from);
                }
                if (fact.to > to) {
                    open(entity, attribute, fact.value, to, fact.to);
                }
            }
            if (kind != 'r') {
                open(entity, attribute, value, from, to);
            }
            Integer[][] next = new Integer[18][];
            for (int i = 0; i < 18; i++) {
                next[i] = snapshots.get(clock() - 1)[i].clone();
            }
            for (int day = from; day < to; day++) {
                next[entity * 3 + attribute][day] = kind == 'r' ? null : (Integer) value;
            }
            snapshots.add(next);
            return closing.size();
        }

        void open(int entity, int attribute, int value, int from, int to) {
            Fact fact = new Fact();
            fact.entity = entity;
            fact.attribute = attribute;
            fact.value = value;
            fact.from = from;
            fact.to = to;
            fact.opened = clock();
            facts.add(fact);
        }

        String ofFact(int number, int what) {
            if (number < 0 || number >= facts.size() || facts.get(number).purged) {
                return ELEMENT;
            }
            Fact fact = facts.get(number);
            int[] cells = {fact.value, fact.from, fact.to, fact.opened, fact.closed};
            return String.valueOf(cells[what]);
        }

        String count(boolean openOnly) {
            int count = 0;
            for (Fact fact : facts) {
                count += !fact.purged && (!openOnly || fact.closed == -1) ? 1 : 0;
            }
            return String.valueOf(count);
        }

        String purge(int tick) {
            if (tick < horizon || tick > clock()) {
                return ARGUMENT;
            }
            int removed = 0;
            for (Fact fact : facts) {
                if (!fact.purged && fact.closed != -1 && fact.closed <= tick) {
                    fact.purged = true;
                    removed++;
                }
            }
            horizon = tick;
            return String.valueOf(removed);
        }

        String ofTick(int tick, boolean kind) {
            if (tick < 1 || tick > clock()) {
                return ARGUMENT;
            }
            return kind ? String.valueOf(kinds.charAt(tick - 1))
                    : String.valueOf(entityOfTick.get(tick - 1));
        }

        String dayFaults(int entity, int attribute, int day, int tick) {
            return firstOf(attributeFault(entity, attribute), dayFault(day), tickFault(tick),
                    horizonFault(tick));
        }

        String isKnown(int entity, int attribute, int day, int tick) {
            String fault = dayFaults(entity, attribute, day, tick);
            return fault != null ? fault
                    : String.valueOf(row(entity, attribute, tick)[day] != null);
        }

        String valueAt(int entity, int attribute, int day, int tick) {
            String fault = dayFaults(entity, attribute, day, tick);
            if (fault != null) {
                return fault;
            }
            Integer value = row(entity, attribute, tick)[day];
            return value == null ? ELEMENT : value.toString();
        }

        String tickFaults(int entity, int attribute, int tick) {
            return firstOf(attributeFault(entity, attribute), tickFault(tick),
                    horizonFault(tick));
        }

        String sum(int entity, int attribute, int tick, boolean values) {
            String fault = tickFaults(entity, attribute, tick);
            if (fault != null) {
                return fault;
            }
            long sum = 0;
            for (Integer value : row(entity, attribute, tick)) {
                sum += value == null ? 0 : values ? value : 1;
            }
            return String.valueOf(sum);
        }

        /** The runs of days on which both rows stay as they are and are known. */
        static List<int[]> joint(Integer[] one, Integer[] other) {
            List<int[]> list = new ArrayList<>();
            int day = 0;
            while (day < 100) {
                int end = day + 1;
                if (one[day] != null && other[day] != null) {
                    while (end < 100 && one[day].equals(one[end])
                            && other[day].equals(other[end])) {
                        end++;
                    }
                    list.add(new int[] {day, end, one[day]});
                }
                day = end;
            }
            return list;
        }

        String periods(int entity, int attribute, int tick, int index, int what) {
            return joint(entity, attribute, entity, attribute, tick, index, what);
        }

        /** what: 0 first day, 1 day after, 2 value, 3 number of joint periods. */
        String joint(int entity, int attribute, int other, int otherAttribute, int tick,
                int index, int what) {
            String fault = firstOf(attributeFault(entity, attribute),
                    tickFaults(other, otherAttribute, tick));
            if (fault != null) {
                return fault;
            }
            List<int[]> list = joint(row(entity, attribute, tick),
                    row(other, otherAttribute, tick));
            if (what == 3) {
                return String.valueOf(list.size());
            }
            boolean exists = index >= 0 && index < list.size();
            return exists ? String.valueOf(list.get(index)[what]) : ELEMENT;
        }

        String shared(int entity, int attribute, int other, int otherAttribute, int tick,
                boolean sameValue) {
            String fault = firstOf(attributeFault(entity, attribute),
                    tickFaults(other, otherAttribute, tick));
            if (fault != null) {
                return fault;
            }
            int days = 0;
            for (int day = 0; day < 100; day++) {
                Integer one = row(entity, attribute, tick)[day];
                Integer two = row(other, otherAttribute, tick)[day];
                boolean both = one != null && two != null;
                days += both && (!sameValue || one.equals(two)) ? 1 : 0;
            }
            return String.valueOf(days);
        }

        String changedDays(int entity, int attribute, int tick, int otherTick) {
            String fault = firstOf(attributeFault(entity, attribute), tickFault(tick),
                    tickFault(otherTick), horizonFault(tick), horizonFault(otherTick));
            if (fault != null) {
                return fault;
            }
            int days = 0;
            for (int day = 0; day < 100; day++) {
                days += Objects.equals(row(entity, attribute, tick)[day],
                        row(entity, attribute, otherTick)[day]) ? 0 : 1;
            }
            return String.valueOf(days);
        }

        String allFaults(int attribute, int day, int tick) {
            return firstOf(attribute < 0 || attribute > 2 ? INDEX : null, dayFault(day),
                    tickFault(tick), horizonFault(tick));
        }

        String total(int attribute, int day, int tick) {
            String fault = allFaults(attribute, day, tick);
            if (fault != null) {
                return fault;
            }
            int sum = 0;
            for (int entity = 0; entity < entities; entity++) {
                Integer value = row(entity, attribute, tick)[day];
                try {
                    sum = Math.addExact(sum, value == null ? 0 : value);
                } catch (ArithmeticException e) {
                    return ARITHMETIC;
                }
            }
            return String.valueOf(sum);
        }

        String meanValue(int attribute, int day, int tick) {
            String fault = allFaults(attribute, day, tick);
            if (fault != null) {
                return fault;
            }
            long sum = 0;
            int number = 0;
            for (int entity = 0; entity < entities; entity++) {
                Integer value = row(entity, attribute, tick)[day];
                sum += value == null ? 0 : value;
                number += value == null ? 0 : 1;
            }
            return number == 0 ? ARITHMETIC : String.valueOf((double) sum / (double) number);
        }

        /** what: 0 first tick, 1 whether known, 2 value, 3 number of versions. */
        String versions(int entity, int attribute, int day, int index, int what) {
            String fault = firstOf(attributeFault(entity, attribute), dayFault(day));
            if (fault != null) {
                return fault;
            }
            List<Integer> ticks = new ArrayList<>();
            for (int tick = horizon; tick <= clock(); tick++) {
                if (tick == horizon || !Objects.equals(row(entity, attribute, tick)[day],
                        row(entity, attribute, tick - 1)[day])) {
                    ticks.add(tick);
                }
            }
            if (what == 3) {
                return String.valueOf(ticks.size());
            }
            if (index < 0 || index >= ticks.size()) {
                return ELEMENT;
            }
            Integer value = row(entity, attribute, ticks.get(index))[day];
            if (what == 0) {
                return ticks.get(index).toString();
            }
            if (what == 1) {
                return String.valueOf(value != null);
            }
            return value == null ? ELEMENT : value.toString();
        }

        String writePeriods(int entity, int attribute, int tick) {
            String fault = tickFaults(entity, attribute, tick);
            if (fault != null) {
                return fault;
            }
            List<String> texts = new ArrayList<>();
            Integer[] row = row(entity, attribute, tick);
            for (int[] period : joint(row, row)) {
                texts.add(period[0] + "-" + period[1] + "=" + period[2]);
            }
            line = String.join(" ", texts);
            return String.valueOf(line.length());
        }

        String lineAt(int index) {
            boolean exists = index >= 0 && index < line.length();
            return exists ? String.valueOf(line.charAt(index)) : INDEX;
        }
    }

    /** One ledger and its model. */
    private static final class Run {
        private static final int[] STRANGE = {Integer.MIN_VALUE, -100, -1, 6, 60, 61, 99, 100, 101,
            180, 1000, Integer.MAX_VALUE};
        private static final int[] VALUES = {0, 0, 1, 1, 2, 3, -1, -7, Integer.MAX_VALUE,
            Integer.MIN_VALUE, Integer.MAX_VALUE - 1, 1000000000};

        private final Check check;
        private final int number;
        private final FactLedger ledger = new FactLedger();
        private final Model model = new Model();
        private final List<String> calls = new ArrayList<>();
        private final boolean cramped;
        private long seed;

        Run(Check check, int number) {
            this.check = check;
            this.number = number;
            // In every second run all days lie close together, so that facts meet more often.
            this.cramped = number % 2 == 0;
            this.seed = number * 7919L + 17;
        }

        /** The same numbers in every run of this program. */
        int pick(int bound) {
            seed = seed * 6364136223846793005L + 1442695040888963407L;
            return (int) ((seed >>> 33) % bound);
        }

        boolean rarely() {
            return pick(25) == 0;
        }

        int strange() {
            return STRANGE[pick(STRANGE.length)];
        }

        int entity() {
            return rarely() ? strange() : pick(Math.max(Math.min(model.entities, 3), 1));
        }

        int attribute() {
            return rarely() ? strange() : pick(3) == 0 ? 1 + pick(2) : 0;
        }

        int day() {
            return rarely() ? strange() : cramped ? 90 + pick(10) : pick(100);
        }

        int tick() {
            int horizon = model.horizon;
            return rarely() ? strange() : rarely() ? pick(horizon + 1)
                    : horizon + pick(model.clock() - horizon + 1);
        }

        int index() {
            return rarely() ? strange() : pick(5);
        }

        int value() {
            return VALUES[pick(VALUES.length)];
        }

        void go() {
            for (int call = 0; call < CALLS && check.wrongCount() == 0; call++) {
                int kind = pick(100);
                if (call < 4 || kind < 2) {
                    due("addEntity()", model.addEntity(), () -> ledger.addEntity());
                } else if (kind < 20) {
                    operate();
                } else if (kind < 40) {
                    askFacts();
                } else if (kind < 60) {
                    askDays();
                } else if (kind < 80) {
                    askPeriods();
                } else {
                    askRest();
                }
            }
        }

        void due(String call, String want, Check.Call answer) {
            calls.add(call);
            String got = Check.outcome(answer);
            check.same("run " + number + ": " + call, got, want);
            if (!got.equals(want)) {
                System.out.println(String.join("\n", calls));
            }
        }

        void operate() {
            int e = entity();
            int a = attribute();
            int v = value();
            int d = day();
            int end = rarely() ? strange() : Math.min(d + 1 + pick(cramped ? 5 : 40), 100);
            String place = "(" + e + ", " + a + ", ";
            switch (pick(5)) {
                case 0:
                    due("retract" + place + d + ", " + end + ")", model.retract(e, a, d, end),
                            () -> ledger.retract(e, a, d, end));
                    break;
                case 1:
                    due("correct" + place + d + ", " + v + ")", model.correct(e, a, d, v),
                            () -> ledger.correct(e, a, d, v));
                    break;
                default:
                    due("tell" + place + v + ", " + d + ", " + end + ")",
                            model.tell(e, a, v, d, end), () -> ledger.tell(e, a, v, d, end));
                    break;
            }
        }

        void askFacts() {
            int f = rarely() ? strange() : pick(model.facts.size() + 2) - 1;
            int t = tick();
            switch (pick(13)) {
                case 0:
                    due("entityCount()", "" + model.entities, () -> ledger.entityCount());
                    break;
                case 1:
                    due("clock()", "" + model.clock(), () -> ledger.clock());
                    break;
                case 2:
                    due("operationAt(" + t + ")", model.ofTick(t, true),
                            () -> ledger.operationAt(t));
                    break;
                case 3:
                    due("entityOf(" + t + ")", model.ofTick(t, false), () -> ledger.entityOf(t));
                    break;
                case 4:
                    due("factCount()", model.count(false), () -> ledger.factCount());
                    break;
                case 5:
                    due("openCount()", model.count(true), () -> ledger.openCount());
                    break;
                case 6:
                    due("factValue(" + f + ")", model.ofFact(f, 0), () -> ledger.factValue(f));
                    break;
                case 7:
                    due("factFrom(" + f + ")", model.ofFact(f, 1), () -> ledger.factFrom(f));
                    break;
                case 8:
                    due("factTo(" + f + ")", model.ofFact(f, 2), () -> ledger.factTo(f));
                    break;
                case 9:
                    due("openedAt(" + f + ")", model.ofFact(f, 3), () -> ledger.openedAt(f));
                    break;
                case 10:
                    due("closedAt(" + f + ")", model.ofFact(f, 4), () -> ledger.closedAt(f));
                    break;
                case 11:
                    int p = pick(3) == 0 ? t : Math.min(model.horizon + pick(4), t);
                    due("purge(" + p + ")", model.purge(p), () -> ledger.purge(p));
                    break;
                default:
                    due("horizon()", "" + model.horizon, () -> ledger.horizon());
                    break;
            }
        }

        void askDays() {
            int e = entity();
            int a = attribute();
            int d = day();
            int t = tick();
            int o = tick();
            String place = "(" + e + ", " + a + ", ";
            String dayAndTick = d + ", " + t + ")";
            switch (pick(8)) {
                case 0:
                    due("isKnown" + place + dayAndTick, model.isKnown(e, a, d, t),
                            () -> ledger.isKnown(e, a, d, t));
                    break;
                case 1:
                    due("valueAt" + place + dayAndTick, model.valueAt(e, a, d, t),
                            () -> ledger.valueAt(e, a, d, t));
                    break;
                case 2:
                    due("valueByReplay" + place + dayAndTick, model.valueAt(e, a, d, t),
                            () -> ledger.valueByReplay(e, a, d, t));
                    break;
                case 3:
                    due("knownDays" + place + t + ")", model.sum(e, a, t, false),
                            () -> ledger.knownDays(e, a, t));
                    break;
                case 4:
                    due("integral" + place + t + ")", model.sum(e, a, t, true),
                            () -> ledger.integral(e, a, t));
                    break;
                case 5:
                    due("changedDays" + place + t + ", " + o + ")",
                            model.changedDays(e, a, t, o), () -> ledger.changedDays(e, a, t, o));
                    break;
                case 6:
                    due("total(" + a + ", " + dayAndTick, model.total(a, d, t),
                            () -> ledger.total(a, d, t));
                    break;
                default:
                    due("meanValue(" + a + ", " + dayAndTick, model.meanValue(a, d, t),
                            () -> ledger.meanValue(a, d, t));
                    break;
            }
        }

        void askPeriods() {
            int e = entity();
            int a = attribute();
            int o = entity();
            int b = attribute();
            int t = tick();
            int i = index();
            String one = "(" + e + ", " + a + ", " + t + ", " + i + ")";
            String two = "(" + e + ", " + a + ", " + o + ", " + b + ", " + t + ", " + i + ")";
            switch (pick(9)) {
                case 0:
                    due("periodCount" + one, model.periods(e, a, t, i, 3),
                            () -> ledger.periodCount(e, a, t));
                    break;
                case 1:
                    due("periodFrom" + one, model.periods(e, a, t, i, 0),
                            () -> ledger.periodFrom(e, a, t, i));
                    break;
                case 2:
                    due("periodTo" + one, model.periods(e, a, t, i, 1),
                            () -> ledger.periodTo(e, a, t, i));
                    break;
                case 3:
                    due("periodValue" + one, model.periods(e, a, t, i, 2),
                            () -> ledger.periodValue(e, a, t, i));
                    break;
                case 4:
                    due("joinCount" + two, model.joint(e, a, o, b, t, i, 3),
                            () -> ledger.joinCount(e, a, o, b, t));
                    break;
                case 5:
                    due("joinFrom" + two, model.joint(e, a, o, b, t, i, 0),
                            () -> ledger.joinFrom(e, a, o, b, t, i));
                    break;
                case 6:
                    due("joinTo" + two, model.joint(e, a, o, b, t, i, 1),
                            () -> ledger.joinTo(e, a, o, b, t, i));
                    break;
                case 7:
                    due("commonDays" + two, model.shared(e, a, o, b, t, false),
                            () -> ledger.commonDays(e, a, o, b, t));
                    break;
                default:
                    due("agreeDays" + two, model.shared(e, a, o, b, t, true),
                            () -> ledger.agreeDays(e, a, o, b, t));
                    break;
            }
        }

        void askRest() {
            int e = entity();
            int a = attribute();
            int d = day();
            int t = tick();
            int i = index();
            String version = "(" + e + ", " + a + ", " + d + ", " + i + ")";
            switch (pick(7)) {
                case 0:
                    due("versionCount" + version, model.versions(e, a, d, i, 3),
                            () -> ledger.versionCount(e, a, d));
                    break;
                case 1:
                    due("versionTick" + version, model.versions(e, a, d, i, 0),
                            () -> ledger.versionTick(e, a, d, i));
                    break;
                case 2:
                    due("isVersionKnown" + version, model.versions(e, a, d, i, 1),
                            () -> ledger.isVersionKnown(e, a, d, i));
                    break;
                case 3:
                    due("versionValue" + version, model.versions(e, a, d, i, 2),
                            () -> ledger.versionValue(e, a, d, i));
                    break;
                case 4:
                    due("writePeriods(" + e + ", " + a + ", " + t + ")",
                            model.writePeriods(e, a, t), () -> ledger.writePeriods(e, a, t));
                    break;
                case 5:
                    int at = rarely() ? strange() : pick(model.line.length() + 2) - 1;
                    due("lineAt(" + at + ")", model.lineAt(at), () -> ledger.lineAt(at));
                    break;
                default:
                    due("isConsistent()", "true", () -> ledger.isConsistent());
                    break;
            }
        }
    }
}
