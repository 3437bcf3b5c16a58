/** The boundaries that the terms of the document name, ahead of its promises. */
public final class BoundaryTermsTest {
    private BoundaryTermsTest() {
    }

    public static void main(String[] args) {
        calls();
        entitiesAttributesDays();
        ticks();
        facts();
        closing();
        remainingDays();
        manyRemainders();
        corrections();
        asOfATick();
        tickZero();
        periods();
        jointPeriods();
        horizon();
        versions();
        firstExceptionWins();
        Boundary.end();
    }

    private static Ledgers.Calls one() {
        return Ledgers.entities(1);
    }

    /** One entity whose attribute 0 is 5 on the days 20 to 29: clock 1, fact 0. */
    private static Ledgers.Calls oneFact() {
        return one().then(ledger -> ledger.tell(0, 0, 5, 20, 30));
    }

    private static void calls() {
        // 512 calls: addEntity, the telling, 509 questions, and the one whose answer is compared.
        Ledgers.Calls before = oneFact().then(ledger -> {
            for (int call = 0; call < 509; call++) {
                ledger.isConsistent();
            }
        });
        Boundary.does("the 512th call asks", 5, before, ledger -> ledger.valueAt(0, 0, 29, 1));
        Boundary.does("the 512th call replays", 5, before,
                ledger -> ledger.valueByReplay(0, 0, 29, 1));
        Boundary.does("the 512th call tells", 1, before, ledger -> ledger.tell(0, 0, 6, 29, 30));
        Boundary.does("the 512th call writes", 7, before, ledger -> ledger.writePeriods(0, 0, 1));
        Boundary.does("the 512th call is refused", Boundary.INDEX.getName(), before,
                ledger -> Check.outcome(() -> ledger.tell(1, 0, 6, 29, 30)));
    }

    private static void entitiesAttributesDays() {
        Boundary.does("entities are numbered from 0", 0, ledger -> { },
                ledger -> ledger.addEntity());
        Boundary.does("at most 6 entities: the sixth", 5, Ledgers.entities(5),
                ledger -> ledger.addEntity());
        Boundary.refuses("at most 6 entities: the seventh", Boundary.STATE, Ledgers.entities(6),
                ledger -> ledger.addEntity());
        Boundary.does("attribute 2 of entity 5, day 99", 0, Ledgers.entities(6),
                ledger -> ledger.tell(5, 2, 1, 99, 100));
        Boundary.does("attribute 0 of entity 0, day 0", 0, Ledgers.entities(6),
                ledger -> ledger.tell(0, 0, 1, 0, 1));
        Boundary.does("all 18 attributes are apart", "1 2 3 4 5 6 7 8 9 10 11 12 13 14 15 16 17 18",
                Ledgers.entities(6).then(ledger -> {
                    for (int i = 0; i < 18; i++) {
                        ledger.tell(i / 3, i % 3, i + 1, 0, 100);
                    }
                }), ledger -> {
                    StringBuilder text = new StringBuilder();
                    for (int i = 0; i < 18; i++) {
                        text.append(i == 0 ? "" : " ").append(ledger.valueAt(i / 3, i % 3, 99, 18));
                    }
                    return text;
                });
        Boundary.does("the first day counts, the day after the last does not", "20-30=5",
                oneFact(), ledger -> Ledgers.written(ledger, 0, 0, 1));
    }

    private static void ticks() {
        Boundary.answers("the clock is 0 before the first operation", 0, one(),
                ledger -> ledger.clock());
        Boundary.answers("the first operation has the tick 1", 1, oneFact(),
                ledger -> ledger.openedAt(0));
        Boundary.answers("every further one has the next tick", 60, Ledgers.operations(60),
                ledger -> ledger.openedAt(59));
        Boundary.does("a refused operation has no tick", "2 2", oneFact(), ledger -> {
            Check.outcome(() -> ledger.tell(0, 3, 6, 20, 30));
            Check.outcome(() -> ledger.tell(0, 0, 6, 30, 30));
            Check.outcome(() -> ledger.retract(0, 0, 30, 40));
            Check.outcome(() -> ledger.correct(0, 0, 30, 6));
            ledger.tell(0, 0, 6, 30, 40);
            return ledger.clock() + " " + ledger.openedAt(1);
        });
        Boundary.does("only tell, retract and correct have a tick", 1, oneFact(), ledger -> {
            ledger.addEntity();
            ledger.purge(1);
            ledger.writePeriods(0, 0, 1);
            ledger.isConsistent();
            return ledger.clock();
        });
        Boundary.does("at most 60 operations: the sixtieth", 60, Ledgers.operations(59), ledger -> {
            ledger.retract(0, 1, 10, 11);
            return ledger.clock();
        });
        Boundary.refuses("at most 60 operations: the next", Boundary.STATE, Ledgers.operations(60),
                ledger -> ledger.retract(0, 1, 10, 11));
    }

    private static void facts() {
        Boundary.answers("facts are numbered from 0", "5:20-30@1/-1", oneFact(),
                ledger -> Ledgers.fact(ledger, 0));
        Boundary.does("in the order in which they are opened, over all attributes",
                "1:0-1@1/-1 2:0-1@2/-1 3:0-1@3/-1", Ledgers.entities(2), ledger -> {
                    ledger.tell(1, 2, 1, 0, 1);
                    ledger.tell(0, 0, 2, 0, 1);
                    ledger.tell(1, 0, 3, 0, 1);
                    return Ledgers.factsFrom(ledger, 0);
                });
        Boundary.does("a fact is open until an operation closes it", "-1 2", oneFact(), ledger -> {
            int before = ledger.closedAt(0);
            ledger.tell(0, 0, 6, 29, 30);
            return before + " " + ledger.closedAt(0);
        });
        Boundary.does("a closed fact is not closed again", 2, oneFact(), ledger -> {
            ledger.tell(0, 0, 6, 20, 30);
            ledger.tell(0, 0, 7, 20, 30);
            return ledger.closedAt(0);
        });
        int[][] known = {{19, 0}, {20, 1}, {29, 1}, {30, 0}};
        for (int[] row : known) {
            Boundary.answers("a value is known if an open fact contains day " + row[0], row[1] == 1,
                    oneFact(), ledger -> ledger.isKnown(0, 0, row[0], 1));
        }
        Boundary.answers("the value is the one of this fact", 5, oneFact(),
                ledger -> ledger.valueAt(0, 0, 20, 1));
    }

    private static void closing() {
        int[][] due = {{0, 20, 0}, {0, 21, 1}, {19, 20, 0}, {20, 21, 1}, {29, 30, 1}, {29, 100, 1},
            {30, 31, 0}, {30, 100, 0}, {20, 30, 1}, {0, 100, 1}, {24, 26, 1}};
        for (int[] row : due) {
            Boundary.does("closes a fact with one of the days " + row[0] + " to " + row[1], row[2],
                    oneFact(), ledger -> ledger.tell(0, 0, 6, row[0], row[1]));
        }
        Ledgers.Calls two = oneFact().then(ledger -> ledger.tell(0, 0, 6, 30, 40));
        int[][] dueOfTwo = {{19, 20, 0}, {29, 30, 1}, {30, 31, 1}, {29, 31, 2}, {39, 40, 1},
            {40, 41, 0}, {0, 100, 2}};
        for (int[] row : dueOfTwo) {
            Boundary.does("closes of two facts with the days " + row[0] + " to " + row[1], row[2],
                    two, ledger -> ledger.tell(0, 0, 7, row[0], row[1]));
        }
        Boundary.does("closes no fact of another attribute or entity", "-1 -1 4",
                Ledgers.entities(2).then(ledger -> {
                    ledger.tell(0, 1, 1, 20, 30);
                    ledger.tell(1, 0, 1, 20, 30);
                    ledger.tell(0, 0, 1, 20, 30);
                    ledger.tell(0, 0, 2, 20, 30);
                }), ledger -> ledger.closedAt(0) + " " + ledger.closedAt(1) + " "
                        + ledger.closedAt(2));
        Boundary.does("forty facts are closed at once", 40,
                one().then(ledger -> {
                    for (int day = 0; day < 40; day++) {
                        ledger.tell(0, 0, day, day, day + 1);
                    }
                }), ledger -> ledger.tell(0, 0, 7, 0, 100));
    }

    private static void remainingDays() {
        remainder("no days before and none after", 20, 30, "", "6:20-30@2/-1");
        remainder("more days than the fact", 19, 31, "", "6:19-31@2/-1");
        remainder("one day before", 21, 30, "5:20-21@2/-1", "6:21-30@2/-1");
        remainder("one day after", 20, 29, "5:29-30@2/-1", "6:20-29@2/-1");
        remainder("days before, up to a far day", 25, 100, "5:20-25@2/-1", "6:25-100@2/-1");
        remainder("days after, from a far day", 0, 25, "5:25-30@2/-1", "6:0-25@2/-1");
        remainder("first before, then after", 21, 29, "5:20-21@2/-1 5:29-30@2/-1", "6:21-29@2/-1");
        remainder("one day out of the middle", 24, 25, "5:20-24@2/-1 5:25-30@2/-1", "6:24-25@2/-1");
    }

    /** A telling opens the rest of the fact and then its own; a retraction only the rest. */
    private static void remainder(String sentence, int from, int to, String rest, String own) {
        String both = rest.isEmpty() ? own : rest + " " + own;
        Boundary.does("remaining days, tell: " + sentence, both, oneFact(), ledger -> {
            ledger.tell(0, 0, 6, from, to);
            return Ledgers.factsFrom(ledger, 1);
        });
        Boundary.does("remaining days, retract: " + sentence, rest, oneFact(), ledger -> {
            ledger.retract(0, 0, from, to);
            return Ledgers.factsFrom(ledger, 1);
        });
    }

    private static void manyRemainders() {
        // The later a fact is opened, the earlier are its days.
        Ledgers.Calls backwards = one().then(ledger -> {
            ledger.tell(0, 0, 3, 50, 60);
            ledger.tell(0, 0, 2, 30, 40);
            ledger.tell(0, 0, 1, 10, 20);
        });
        Boundary.does("remainders in ascending order of the facts' first days",
                "1:10-11@4/-1 3:59-60@4/-1 4:11-59@4/-1", backwards, ledger -> {
                    ledger.tell(0, 0, 4, 11, 59);
                    return Ledgers.factsFrom(ledger, 3);
                });
        Boundary.does("remainders of a retraction in that order", "1:10-11@4/-1 3:59-60@4/-1",
                backwards, ledger -> {
                    ledger.retract(0, 0, 11, 59);
                    return Ledgers.factsFrom(ledger, 3);
                });
        Boundary.does("remainders with the same value stay facts of their own",
                "5:20-24@2/-1 5:25-30@2/-1 5:24-25@2/-1", oneFact(), ledger -> {
                    ledger.tell(0, 0, 5, 24, 25);
                    return Ledgers.factsFrom(ledger, 1);
                });
    }

    private static void corrections() {
        Ledgers.Calls three = one().then(ledger -> {
            ledger.tell(0, 0, 5, 10, 20);
            ledger.tell(0, 0, 5, 20, 30);
            ledger.tell(0, 0, 5, 30, 40);
        });
        for (int day : new int[] {20, 24, 29}) {
            Boundary.does("a correction concerns all days of the fact, and no others: day " + day,
                    "10 6:20-30@4/-1 -1 4 -1", three, ledger -> {
                        int days = ledger.correct(0, 0, day, 6);
                        return days + " " + Ledgers.factsFrom(ledger, 3) + " " + ledger.closedAt(0)
                                + " " + ledger.closedAt(1) + " " + ledger.closedAt(2);
                    });
        }
        Boundary.does("the fact that contains the day before", 0, three, ledger -> {
            ledger.correct(0, 0, 19, 6);
            return ledger.closedAt(0) == 4 && ledger.closedAt(1) == -1 ? 0 : 1;
        });
        Boundary.does("the fact that contains the day after", 0, three, ledger -> {
            ledger.correct(0, 0, 30, 6);
            return ledger.closedAt(2) == 4 && ledger.closedAt(1) == -1 ? 0 : 1;
        });
        Boundary.does("a correction closes and opens the fact also for its own value",
                "5:20-30@2/4 5:20-30@4/-1", three, ledger -> {
                    ledger.correct(0, 0, 20, 5);
                    return Ledgers.fact(ledger, 1) + " " + Ledgers.fact(ledger, 3);
                });
    }

    private static void asOfATick() {
        // A fact that is opened in tick 2 and closed in tick 4.
        Ledgers.Calls calls = one().then(ledger -> {
            ledger.tell(0, 1, 1, 0, 1);
            ledger.tell(0, 0, 5, 20, 30);
            ledger.tell(0, 1, 2, 0, 1);
            ledger.retract(0, 0, 20, 30);
            ledger.tell(0, 1, 3, 0, 1);
        });
        boolean[] due = {false, false, true, true, false, false};
        for (int tick = 0; tick < due.length; tick++) {
            int at = tick;
            Boundary.answers("opened in 2, closed in 4, as of " + tick, due[tick], calls,
                    ledger -> ledger.isKnown(0, 0, 20, at));
            Boundary.answers("days as of " + tick, due[tick] ? 10 : 0, calls,
                    ledger -> ledger.knownDays(0, 0, at));
            Boundary.asks("replay as of " + tick, due[tick] ? 5 : Boundary.ELEMENT, calls,
                    ledger -> ledger.valueByReplay(0, 0, 20, at));
        }
    }

    private static void tickZero() {
        Boundary.answers("as of the tick 0 nothing is known: days", 0, oneFact(),
                ledger -> ledger.knownDays(0, 0, 0));
        Boundary.answers("as of the tick 0 nothing is known: periods", 0, oneFact(),
                ledger -> ledger.periodCount(0, 0, 0));
        Boundary.answers("as of the tick 0 nothing is known: joint periods", 0, oneFact(),
                ledger -> ledger.joinCount(0, 0, 0, 0, 0));
        Boundary.answers("as of the tick 0 nothing is known: total", 0, oneFact(),
                ledger -> ledger.total(0, 20, 0));
        Boundary.answers("as of the tick 1 it is", 10, oneFact(),
                ledger -> ledger.knownDays(0, 0, 1));
    }

    private static void periods() {
        periods("one value of two facts that meet", "20-40=5", 5, 30, 40);
        periods("one value of two facts with a day between", "20-30=5 31-40=5", 5, 31, 40);
        periods("other values of two facts that meet", "20-30=5 30-40=6", 6, 30, 40);
        periods("one value from several facts", "20-30=5", 5, 24, 26);
        periods("another value within", "20-24=5 24-26=6 26-30=5", 6, 24, 26);
        periods("the value 0 is a value", "20-29=5 29-30=0", 0, 29, 30);
        periods("one value of the days before", "10-30=5", 5, 10, 20);
    }

    private static void periods(String sentence, String want, int value, int from, int to) {
        Ledgers.Calls calls = oneFact().then(ledger -> ledger.tell(0, 0, value, from, to));
        Boundary.does("a period: " + sentence, want, calls,
                ledger -> Ledgers.written(ledger, 0, 0, 2));
    }

    private static void jointPeriods() {
        joins("both values stay", "20-40", 5, 5, 7);
        joins("the first value changes", "20-30 30-40", 5, 6, 7);
        joins("the second value changes", "20-25 25-40", 5, 5, 8);
        joins("each changes on a day of its own", "20-25 25-30 30-40", 5, 6, 8);
        joins("both attributes have the same value", "20-40", 7, 7, 7);
        Boundary.does("both attributes can be the same", "20-30", oneFact(),
                ledger -> joinsOf(ledger, 0));
        Ledgers.Calls apart = oneFact().then(ledger -> ledger.tell(0, 1, 5, 30, 40));
        Boundary.does("days that only meet are not common", "", apart,
                ledger -> joinsOf(ledger, 1));
        Ledgers.Calls oneDay = oneFact().then(ledger -> ledger.tell(0, 1, 5, 29, 40));
        Boundary.does("one common day", "29-30", oneDay, ledger -> joinsOf(ledger, 1));
    }

    /** Attribute 0 is known on 20 to 39, attribute 1 from day 10 on, changed on day 25. */
    private static void joins(String sentence, String want, int early, int later, int otherLater) {
        Ledgers.Calls calls = one().then(ledger -> {
            ledger.tell(0, 0, early, 20, 30);
            ledger.tell(0, 0, later, 30, 40);
            ledger.tell(0, 1, 7, 10, 25);
            ledger.tell(0, 1, otherLater, 25, 50);
        });
        Boundary.does("a joint period: " + sentence, want, calls, ledger -> joinsOf(ledger, 1));
    }

    private static String joinsOf(FactLedger ledger, int otherAttribute) {
        int now = ledger.clock();
        StringBuilder text = new StringBuilder();
        for (int i = 0; i < ledger.joinCount(0, 0, 0, otherAttribute, now); i++) {
            text.append(i == 0 ? "" : " ")
                    .append(ledger.joinFrom(0, 0, 0, otherAttribute, now, i)).append('-')
                    .append(ledger.joinTo(0, 0, 0, otherAttribute, now, i));
        }
        return text.toString();
    }

    private static void horizon() {
        Boundary.answers("the horizon is 0 at first", 0, Ledgers.past(),
                ledger -> ledger.horizon());
        Boundary.answers("at first the tick 0 can be asked for", 0, Ledgers.past(),
                ledger -> ledger.knownDays(0, 1, 0));
        Boundary.answers("the horizon can be asked for", 20, Ledgers.pastPurgedTo(2),
                ledger -> ledger.knownDays(0, 1, 2));
        Boundary.refuses("the tick before it can not", Boundary.HORIZON, Ledgers.pastPurgedTo(2),
                ledger -> ledger.knownDays(0, 1, 1));
    }

    private static void versions() {
        Ledgers.Calls again = oneFact().then(ledger -> {
            ledger.tell(0, 0, 5, 20, 21);
            ledger.tell(0, 1, 9, 20, 21);
            ledger.retract(0, 0, 20, 21);
            ledger.tell(0, 1, 8, 20, 21);
            ledger.tell(0, 0, 5, 20, 21);
        });
        Boundary.answers("rows as long as possible: none, 5, none, 5", 4, again,
                ledger -> ledger.versionCount(0, 0, 20));
        Boundary.answers("the same value of another fact is no new version", 4, again,
                ledger -> ledger.versionTick(0, 0, 20, 2));
        Boundary.answers("the same value later is a version of its own", 6, again,
                ledger -> ledger.versionTick(0, 0, 20, 3));
        Boundary.answers("a day of which nothing was ever known has one", 1, again,
                ledger -> ledger.versionCount(0, 0, 30));
        Boundary.answers("before the first operation there is one", 1, one(),
                ledger -> ledger.versionCount(0, 0, 0));
        Ledgers.Calls purged = again.then(ledger -> ledger.purge(4));
        Boundary.answers("the first one begins in the horizon", 4, purged,
                ledger -> ledger.versionTick(0, 0, 20, 0));
        Boundary.answers("the rows from the horizon to the clock", 2, purged,
                ledger -> ledger.versionCount(0, 0, 20));
    }

    private static void firstExceptionWins() {
        Boundary.refuses("entity before days before operations", Boundary.INDEX,
                Ledgers.operations(60), ledger -> ledger.tell(2, 0, 1, 5, 5));
        Boundary.refuses("days before operations", Boundary.ARGUMENT, Ledgers.operations(60),
                ledger -> ledger.tell(1, 0, 1, 5, 5));
        Boundary.refuses("days before nothing known before operations", Boundary.ARGUMENT,
                Ledgers.operations(60), ledger -> ledger.retract(1, 0, 5, 5));
        Boundary.refuses("nothing known before operations", Boundary.ELEMENT,
                Ledgers.operations(60), ledger -> ledger.correct(1, 0, 5, 1));
    }
}
