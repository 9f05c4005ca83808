import java.util.ArrayList;
import java.util.List;

/**
 * A call that throws an exception changes nothing, and of several exceptions the one named first is thrown.
 *
 * <p>For each refused call two offices are made by the same calls, one of them with the refused call besides;
 * then both are asked and filled further by the same calls, and have to answer the same.
 */
final class RefusalsTest {
    private static final Checks checks = new Checks();

    private static final Class<IndexOutOfBoundsException> BOUNDS = IndexOutOfBoundsException.class;
    private static final Class<IllegalArgumentException> ARGUMENT = IllegalArgumentException.class;
    private static final Class<IllegalStateException> STATE = IllegalStateException.class;

    private interface Maker {
        Resetline make();
    }

    private interface Call {
        void on(Resetline office);
    }

    private interface Ask {
        Object of();
    }

    public static void main(String[] args) {
        ofAnEmptyOffice();
        ofWrongArguments("half full", RefusalsTest::halfFull);
        ofWrongArguments("full", RefusalsTest::full);
        ofTheState();
        severalApplyHoliday();
        severalApplyFix();
        severalApplyTrade();
        severalApplySetTerms();
        severalApplyBreakPart();
        severalApplyHandOver();
        severalApplyToQuestions();
        askingChangesNothing();
        checks.close();
    }

    // ---- the offices

    private static Resetline halfFull() {
        Resetline x = new Resetline();
        x.holiday(0, 7);
        x.holiday(1, 8);
        x.fix(0, 300);
        x.fix(8, -40);
        x.trade(0, 10, true, 100, 0, 7, 3);
        x.trade(0, 6, false, 100, 0, 7, 3);
        x.trade(2, 9, true, -50, 3, 11, 2);
        x.setTerms(2, 12, 0, Resetline.SPREAD_IN);
        x.breakPart(2, 14, 4);
        x.handOver(2, 20, 1);
        return x;
    }

    /** No town, fixing, trade, rest of the trade 0 or handover of it is left. */
    private static Resetline full() {
        Resetline x = new Resetline();
        for (int i = 0; i < 20; i++) {
            x.holiday(0, 100 + i);
            x.holiday(1, 7 * i);
        }
        for (int i = 0; i < 60; i++) {
            x.fix(5 * i, 10 * i - 200);
        }
        for (int i = 0; i < 10; i++) {
            x.trade(i % 4, 3 + i, i % 2 == 0, 100, i, 20, 3);
        }
        for (int i = 0; i < 10; i++) {
            x.handOver(0, 20 * i, i % 4);
        }
        x.breakPart(0, 20, 2);
        x.breakPart(0, 2000, 1);
        x.setTerms(1, 5, 1, Resetline.SPREAD_BESIDE);
        return x;
    }

    // ---- what is compared

    private static void changesNothing(String what, Class<? extends RuntimeException> due, Maker maker, Call refused) {
        Resetline x = maker.make();
        checks.throwsOnly(what, due, () -> refused.on(x));
        compare(what, maker.make(), x);
    }

    private static void compare(String what, Resetline without, Resetline with) {
        List<String> before = answers(without);
        List<String> after = answers(with);
        String difference = null;
        for (int i = 0; i < before.size() && difference == null; i++) {
            if (!before.get(i).equals(after.get(i))) {
                difference = ": " + before.get(i) + " became " + after.get(i);
            }
        }
        checks.holds(what + " changes nothing" + (difference == null ? "" : difference), difference == null);
    }

    private static List<String> answers(Resetline x) {
        List<String> answers = new ArrayList<>();
        askDays(answers, x);
        askPeriods(answers, x);
        askCash(answers, x);
        fillFurther(answers, x);
        askPeriods(answers, x);
        return answers;
    }

    private static void note(List<String> answers, String what, Ask ask) {
        String answer;
        try {
            answer = String.valueOf(ask.of());
        } catch (RuntimeException e) {
            answer = e.getClass().getSimpleName();
        }
        answers.add(what + " " + answer);
    }

    private static void askDays(List<String> answers, Resetline x) {
        for (int day : new int[] {0, 1, 2, 7, 8, 9, 28, 100, 3000}) {
            note(answers, "isOpen " + day, () -> x.isOpen(day));
            note(answers, "rateFor " + day, () -> x.rateFor(day));
        }
        note(answers, "roll 0", () -> x.roll(0));
        note(answers, "trades", () -> x.trades());
    }

    private static void askPeriods(List<String> answers, Resetline x) {
        for (int i = 0; i < 4; i++) {
            int trade = i;
            for (int k = 0; k < 3; k++) {
                int period = k;
                String of = " " + trade + " " + period;
                note(answers, "end" + of, () -> x.end(trade, period));
                note(answers, "lots" + of, () -> x.lots(trade, period));
                note(answers, "floating" + of, () -> x.floating(trade, period));
                note(answers, "flow" + of, () -> x.flow(trade, period));
            }
            note(answers, "partyOn 0 of " + trade, () -> x.partyOn(trade, 0));
            note(answers, "partyOn 3000 of " + trade, () -> x.partyOn(trade, 3000));
        }
    }

    private static void askCash(List<String> answers, Resetline x) {
        for (int i = 0; i < 4; i++) {
            int party = i;
            note(answers, "cash of " + party, () -> x.cashByTrades(party, 0, 400));
            note(answers, "nextFlow of " + party, () -> x.nextFlow(party, 0));
        }
    }

    /** Shows what no question tells: how many there are, and whether a trade has a break. */
    private static void fillFurther(List<String> answers, Resetline x) {
        for (int i = 0; i < 4; i++) {
            int trade = i;
            note(answers, "setTerms of " + trade, () -> { x.setTerms(trade, 12, 0, 1); return "done"; });
            note(answers, "breakPart of " + trade, () -> x.breakPart(trade, 3000, 1));
            for (int k = 0; k < 11; k++) {
                int party = k % 3;
                note(answers, "handOver of " + trade, () -> x.handOver(trade, 3000, party));
            }
        }
        note(answers, "press", () -> x.press(0));
        for (int i = 0; i < 20; i++) {
            int day = 2900 + i;
            note(answers, "holiday of 0", () -> x.holiday(0, day));
            note(answers, "holiday of 1", () -> x.holiday(1, day));
        }
        for (int i = 0; i < 60; i++) {
            int day = 2900 + i;
            note(answers, "fix", () -> x.fix(day, 0));
        }
        for (int i = 0; i < 10; i++) {
            note(answers, "trade", () -> x.trade(0, 1, true, 0, 0, 5, 3));
        }
    }

    // ---- a call that throws an exception changes nothing

    private static void ofAnEmptyOffice() {
        Maker empty = Resetline::new;
        changesNothing("empty, holiday of town 2", BOUNDS, empty, x -> x.holiday(2, 10));
        changesNothing("empty, holiday of day 3001", ARGUMENT, empty, x -> x.holiday(0, 3001));
        changesNothing("empty, fix of day -1", ARGUMENT, empty, x -> x.fix(-1, 100));
        changesNothing("empty, fix of rate 2001", ARGUMENT, empty, x -> x.fix(0, 2001));
        changesNothing("empty, trade of party 4", BOUNDS, empty, x -> x.trade(4, 1, true, 0, 0, 5, 1));
        changesNothing("empty, trade of lots 0", ARGUMENT, empty, x -> x.trade(0, 0, true, 0, 0, 5, 1));
        changesNothing("empty, setTerms", BOUNDS, empty, x -> x.setTerms(0, 5, 1, 1));
        changesNothing("empty, breakPart", BOUNDS, empty, x -> x.breakPart(0, 0, 1));
        changesNothing("empty, handOver", BOUNDS, empty, x -> x.handOver(0, 0, 3));
        changesNothing("empty, press", ARGUMENT, empty, x -> x.press(3001));
        changesNothing("empty, flow", BOUNDS, empty, x -> x.flow(0, 0));
    }

    private static void ofWrongArguments(String state, Maker maker) {
        String of = state + ", ";
        changesNothing(of + "holiday, town -1", BOUNDS, maker, x -> x.holiday(-1, 9));
        changesNothing(of + "holiday, town 2", BOUNDS, maker, x -> x.holiday(2, 9));
        changesNothing(of + "holiday, day -1", ARGUMENT, maker, x -> x.holiday(0, -1));
        changesNothing(of + "holiday, day 3001", ARGUMENT, maker, x -> x.holiday(1, 3001));
        changesNothing(of + "fix, day -1", ARGUMENT, maker, x -> x.fix(-1, 77));
        changesNothing(of + "fix, day 3001", ARGUMENT, maker, x -> x.fix(3001, 77));
        changesNothing(of + "fix, rate -501", ARGUMENT, maker, x -> x.fix(0, -501));
        changesNothing(of + "fix, rate 2001", ARGUMENT, maker, x -> x.fix(0, 2001));
        ofWrongTrades(of, maker);
        changesNothing(of + "setTerms, trade -1", BOUNDS, maker, x -> x.setTerms(-1, 5, 1, 2));
        changesNothing(of + "setTerms, trade 10", BOUNDS, maker, x -> x.setTerms(10, 5, 1, 2));
        changesNothing(of + "setTerms, spread -501", ARGUMENT, maker, x -> x.setTerms(1, -501, 1, 2));
        changesNothing(of + "setTerms, spread 501", ARGUMENT, maker, x -> x.setTerms(1, 501, 1, 2));
        changesNothing(of + "setTerms, dayCount -1", ARGUMENT, maker, x -> x.setTerms(1, 9, -1, 1));
        changesNothing(of + "setTerms, dayCount 2", ARGUMENT, maker, x -> x.setTerms(1, 9, 2, 1));
        changesNothing(of + "setTerms, compounding -1", ARGUMENT, maker, x -> x.setTerms(1, 9, 0, -1));
        changesNothing(of + "setTerms, compounding 3", ARGUMENT, maker, x -> x.setTerms(1, 9, 0, 3));
        changesNothing(of + "breakPart, trade 10", BOUNDS, maker, x -> x.breakPart(10, 0, 1));
        changesNothing(of + "breakPart, day -1", ARGUMENT, maker, x -> x.breakPart(1, -1, 1));
        changesNothing(of + "breakPart, day 3001", ARGUMENT, maker, x -> x.breakPart(1, 3001, 1));
        changesNothing(of + "breakPart, lots 0", ARGUMENT, maker, x -> x.breakPart(1, 0, 0));
        changesNothing(of + "breakPart, lots -1", ARGUMENT, maker, x -> x.breakPart(1, 0, -1));
        changesNothing(of + "breakPart, lots 1001", ARGUMENT, maker, x -> x.breakPart(1, 0, 1001));
        changesNothing(of + "handOver, trade -1", BOUNDS, maker, x -> x.handOver(-1, 0, 3));
        changesNothing(of + "handOver, party -1", BOUNDS, maker, x -> x.handOver(1, 0, -1));
        changesNothing(of + "handOver, party 4", BOUNDS, maker, x -> x.handOver(1, 0, 4));
        changesNothing(of + "handOver, day -1", ARGUMENT, maker, x -> x.handOver(1, -1, 3));
        changesNothing(of + "handOver, day 3001", ARGUMENT, maker, x -> x.handOver(1, 3001, 3));
        changesNothing(of + "press, day -1", ARGUMENT, maker, x -> x.press(-1));
        changesNothing(of + "press, day 3001", ARGUMENT, maker, x -> x.press(3001));
        ofWrongQuestions(of, maker);
    }

    private static void ofWrongTrades(String of, Maker maker) {
        changesNothing(of + "trade, party -1", BOUNDS, maker, x -> x.trade(-1, 1, true, 0, 0, 5, 1));
        changesNothing(of + "trade, party 4", BOUNDS, maker, x -> x.trade(4, 1, true, 0, 0, 5, 1));
        changesNothing(of + "trade, lots 0", ARGUMENT, maker, x -> x.trade(0, 0, true, 0, 0, 5, 1));
        changesNothing(of + "trade, lots 1001", ARGUMENT, maker, x -> x.trade(0, 1001, true, 0, 0, 5, 1));
        changesNothing(of + "trade, fixed -501", ARGUMENT, maker, x -> x.trade(0, 1, true, -501, 0, 5, 1));
        changesNothing(of + "trade, fixed 2001", ARGUMENT, maker, x -> x.trade(0, 1, true, 2001, 0, 5, 1));
        changesNothing(of + "trade, first -1", ARGUMENT, maker, x -> x.trade(0, 1, true, 0, -1, 5, 1));
        changesNothing(of + "trade, first 1001", ARGUMENT, maker, x -> x.trade(0, 1, true, 0, 1001, 5, 1));
        changesNothing(of + "trade, length 4", ARGUMENT, maker, x -> x.trade(0, 1, true, 0, 0, 4, 1));
        changesNothing(of + "trade, length 181", ARGUMENT, maker, x -> x.trade(0, 1, true, 0, 0, 181, 1));
        changesNothing(of + "trade, periods 0", ARGUMENT, maker, x -> x.trade(0, 1, true, 0, 0, 5, 0));
        changesNothing(of + "trade, periods 11", ARGUMENT, maker, x -> x.trade(0, 1, true, 0, 0, 5, 11));
    }

    private static void ofWrongQuestions(String of, Maker maker) {
        changesNothing(of + "isOpen", ARGUMENT, maker, x -> x.isOpen(3001));
        changesNothing(of + "roll", ARGUMENT, maker, x -> x.roll(-1));
        changesNothing(of + "rateFor", ARGUMENT, maker, x -> x.rateFor(3001));
        changesNothing(of + "start", BOUNDS, maker, x -> x.start(0, 3));
        changesNothing(of + "end", BOUNDS, maker, x -> x.end(0, 3));
        changesNothing(of + "lots", BOUNDS, maker, x -> x.lots(0, -1));
        changesNothing(of + "floating", BOUNDS, maker, x -> x.floating(0, 3));
        changesNothing(of + "flow", BOUNDS, maker, x -> x.flow(10, 0));
        changesNothing(of + "partyOn", ARGUMENT, maker, x -> x.partyOn(0, 3001));
        changesNothing(of + "cash", ARGUMENT, maker, x -> x.cash(0, 3101));
        changesNothing(of + "cashOfDays", ARGUMENT, maker, x -> x.cashOfDays(0, 0, 401));
        changesNothing(of + "cashByTrades", ARGUMENT, maker, x -> x.cashByTrades(0, 5, 4));
        changesNothing(of + "nextFlow", BOUNDS, maker, x -> x.nextFlow(4, 0));
    }

    private static void ofTheState() {
        changesNothing("a holiday that town 0 has", STATE, RefusalsTest::halfFull, x -> x.holiday(0, 7));
        changesNothing("a holiday that town 1 has", STATE, RefusalsTest::halfFull, x -> x.holiday(1, 8));
        changesNothing("holiday 21 of town 0", STATE, RefusalsTest::full, x -> x.holiday(0, 9));
        changesNothing("holiday 21 of town 1", STATE, RefusalsTest::full, x -> x.holiday(1, 9));
        changesNothing("a holiday that a full town has", STATE, RefusalsTest::full, x -> x.holiday(1, 7));
        changesNothing("fixing 61", STATE, RefusalsTest::full, x -> x.fix(1, 999));
        changesNothing("trade 11", STATE, RefusalsTest::full, x -> x.trade(0, 1, true, 0, 0, 5, 3));
        changesNothing("terms of a broken trade", STATE, RefusalsTest::halfFull, x -> x.setTerms(2, 1, 1, 0));
        changesNothing("terms of a trade without a rest", STATE, RefusalsTest::full, x -> x.setTerms(0, 1, 1, 2));
        changesNothing("break of more than the lots", STATE, RefusalsTest::halfFull, x -> x.breakPart(0, 0, 11));
        changesNothing("break of more than the rest", STATE, RefusalsTest::halfFull, x -> x.breakPart(2, 0, 6));
        changesNothing("break of no rest", STATE, RefusalsTest::full, x -> x.breakPart(0, 0, 1));
        changesNothing("handover 11", STATE, RefusalsTest::full, x -> x.handOver(0, 0, 3));
        changesNothing("handover 11, for a day that has one", STATE, RefusalsTest::full, x -> x.handOver(0, 20, 3));
    }

    // ---- if several exceptions apply, the one that the throws clause names first is thrown

    private static void severalApplyHoliday() {
        Resetline x = full();
        checks.outOfBounds("town 2, day 3001", () -> x.holiday(2, 3001));
        checks.outOfBounds("town -1, day -1", () -> x.holiday(-1, -1));
        checks.outOfBounds("town 2 of full ones", () -> x.holiday(2, 1));
        checks.badArgument("day -1 of a full town", () -> x.holiday(0, -1));
        checks.badArgument("day 3001 of a full town", () -> x.holiday(1, 3001));
    }

    private static void severalApplyFix() {
        Resetline x = full();
        checks.badArgument("day -1 of a full list", () -> x.fix(-1, 0));
        checks.badArgument("day 3001 of a full list", () -> x.fix(3001, 0));
        checks.badArgument("rate -501 of a full list", () -> x.fix(1, -501));
        checks.badArgument("rate 2001 of a full list", () -> x.fix(1, 2001));
    }

    private static void severalApplyTrade() {
        int[][] wrong = {
            {0, 0, 0, 5, 1}, {1001, 0, 0, 5, 1}, {1, -501, 0, 5, 1}, {1, 2001, 0, 5, 1}, {1, 0, -1, 5, 1},
            {1, 0, 1001, 5, 1}, {1, 0, 0, 4, 1}, {1, 0, 0, 181, 1}, {1, 0, 0, 5, 0}, {1, 0, 0, 5, 11},
        };
        Resetline x = full();
        Resetline y = halfFull();
        for (int[] a : wrong) {
            String of = " and " + a[0] + " " + a[1] + " " + a[2] + " " + a[3] + " " + a[4];
            checks.outOfBounds("party 4" + of, () -> y.trade(4, a[0], true, a[1], a[2], a[3], a[4]));
            checks.outOfBounds("party -1, full" + of, () -> x.trade(-1, a[0], true, a[1], a[2], a[3], a[4]));
            checks.badArgument("full" + of, () -> x.trade(0, a[0], true, a[1], a[2], a[3], a[4]));
        }
        checks.outOfBounds("party 4 and a full book", () -> x.trade(4, 1, true, 0, 0, 5, 1));
        checks.outOfBounds("party -1 and a full book", () -> x.trade(-1, 1, true, 0, 0, 5, 1));
    }

    private static void severalApplySetTerms() {
        Resetline x = full();
        int[][] wrong = {{-501, 0, 0}, {501, 0, 0}, {0, -1, 0}, {0, 2, 0}, {0, 0, -1}, {0, 0, 3}};
        for (int[] a : wrong) {
            String of = " and " + a[0] + " " + a[1] + " " + a[2];
            checks.outOfBounds("trade 10" + of, () -> x.setTerms(10, a[0], a[1], a[2]));
            checks.outOfBounds("trade -1" + of, () -> x.setTerms(-1, a[0], a[1], a[2]));
            checks.badArgument("a broken trade" + of, () -> x.setTerms(0, a[0], a[1], a[2]));
        }
    }

    private static void severalApplyBreakPart() {
        Resetline x = full();
        int[][] wrong = {{-1, 1}, {3001, 1}, {0, 0}, {0, 1001}, {-1, 0}};
        for (int[] a : wrong) {
            String of = " and " + a[0] + " " + a[1];
            checks.outOfBounds("trade 10" + of, () -> x.breakPart(10, a[0], a[1]));
            checks.outOfBounds("trade -1" + of, () -> x.breakPart(-1, a[0], a[1]));
            checks.badArgument("no rest" + of, () -> x.breakPart(0, a[0], a[1]));
        }
        checks.badArgument("day -1 and more than the rest", () -> x.breakPart(1, -1, 5));
        checks.badArgument("lots 1001 and less than that as the rest", () -> x.breakPart(1, 0, 1001));
    }

    private static void severalApplyHandOver() {
        Resetline x = full();
        checks.outOfBounds("trade 10 and day -1", () -> x.handOver(10, -1, 0));
        checks.outOfBounds("trade -1 and day 3001", () -> x.handOver(-1, 3001, 0));
        checks.outOfBounds("trade 10 and party 4", () -> x.handOver(10, 0, 4));
        checks.outOfBounds("party 4 and day -1", () -> x.handOver(1, -1, 4));
        checks.outOfBounds("party -1 and day 3001", () -> x.handOver(1, 3001, -1));
        checks.outOfBounds("party 4 and ten handovers", () -> x.handOver(0, 0, 4));
        checks.outOfBounds("party -1, day -1 and ten handovers", () -> x.handOver(0, -1, -1));
        checks.badArgument("day -1 and ten handovers", () -> x.handOver(0, -1, 0));
        checks.badArgument("day 3001 and ten handovers", () -> x.handOver(0, 3001, 0));
    }

    private static void severalApplyToQuestions() {
        Resetline x = full();
        checks.outOfBounds("partyOn, trade 10 and day 3001", () -> x.partyOn(10, 3001));
        checks.outOfBounds("partyOn, trade -1 and day -1", () -> x.partyOn(-1, -1));
        checks.outOfBounds("cash, party 4 and day 3101", () -> x.cash(4, 3101));
        checks.outOfBounds("cash, party -1 and day -1", () -> x.cash(-1, -1));
        checks.outOfBounds("nextFlow, party 4 and day 3101", () -> x.nextFlow(4, 3101));
        checks.outOfBounds("nextFlow, party -1 and day -1", () -> x.nextFlow(-1, -1));
        int[][] wrong = {{-1, 0}, {3101, 3101}, {5, 4}, {0, 401}, {3100, 3101}};
        for (int[] a : wrong) {
            String of = " and " + a[0] + " to " + a[1];
            checks.outOfBounds("cashOfDays, party 4" + of, () -> x.cashOfDays(4, a[0], a[1]));
            checks.outOfBounds("cashOfDays, party -1" + of, () -> x.cashOfDays(-1, a[0], a[1]));
            checks.outOfBounds("cashByTrades, party 4" + of, () -> x.cashByTrades(4, a[0], a[1]));
            checks.outOfBounds("cashByTrades, party -1" + of, () -> x.cashByTrades(-1, a[0], a[1]));
        }
    }

    /** The calls that ask for days, lots, flows and cash leave them as they are. */
    private static void askingChangesNothing() {
        Resetline x = halfFull();
        List<String> ignored = new ArrayList<>();
        askDays(ignored, x);
        askPeriods(ignored, x);
        askCash(ignored, x);
        x.cash(0, 20);
        x.cashOfDays(1, 0, 400);
        x.roll(3000);
        x.start(0, 0);
        compare("asking", halfFull(), x);
    }
}
