/** The range of each argument: both its ends are taken, what lies beyond them is refused, and nothing wraps around. */
final class RangesTest {
    private static final Checks checks = new Checks();

    private static final Class<IndexOutOfBoundsException> BOUNDS = IndexOutOfBoundsException.class;
    private static final Class<IllegalArgumentException> ARGUMENT = IllegalArgumentException.class;

    private interface Use {
        void with(Resetline office, int value);
    }

    public static void main(String[] args) {
        promise2Holiday();
        promise3IsOpen();
        promise4Roll();
        promise5Fix();
        promise6RateFor();
        promise7Trade();
        promise8SetTerms();
        promise9BreakPart();
        promise10HandOver();
        promise11Press();
        promises13To17Periods();
        promise18PartyOn();
        promise19Cash();
        promise20CashOfDays();
        promise21CashByTrades();
        promise22NextFlow();
        noTradeOfAnEmptyOffice();
        checks.close();
    }

    /** Two trades of 1000 lots, the first with three periods, the second with one. */
    private static Resetline office() {
        Resetline x = new Resetline();
        x.trade(0, 1000, true, 100, 0, 30, 3);
        x.trade(1, 1000, false, 100, 0, 30, 1);
        return x;
    }

    private static void range(String what, int least, int greatest, Class<? extends RuntimeException> due, Use use) {
        for (int value : new int[] {least, Math.min(least + 1, greatest), greatest}) {
            checks.taken(what + " " + value, () -> use.with(office(), value));
        }
        int[] beyond = {
            least - 1, greatest + 1, Integer.MIN_VALUE, Integer.MAX_VALUE,
            // these would be in the range if only their last bits were looked at
            least + (1 << 8) * 16, least + (1 << 16), least + (1 << 31),
        };
        for (int value : beyond) {
            checks.throwsOnly(what + " " + value, due, () -> use.with(office(), value));
        }
    }

    private static void promise2Holiday() {
        range("holiday, town", 0, 1, BOUNDS, (x, town) -> x.holiday(town, 10));
        range("holiday of town 0, day", 0, 3000, ARGUMENT, (x, day) -> x.holiday(0, day));
        range("holiday of town 1, day", 0, 3000, ARGUMENT, (x, day) -> x.holiday(1, day));
    }

    private static void promise3IsOpen() {
        range("isOpen, day", 0, 3000, ARGUMENT, (x, day) -> x.isOpen(day));
    }

    private static void promise4Roll() {
        range("roll, day", 0, 3000, ARGUMENT, (x, day) -> x.roll(day));
    }

    private static void promise5Fix() {
        range("fix, day", 0, 3000, ARGUMENT, (x, day) -> x.fix(day, 100));
        range("fix, rate", -500, 2000, ARGUMENT, (x, rate) -> x.fix(10, rate));
    }

    private static void promise6RateFor() {
        range("rateFor, day", 0, 3000, ARGUMENT, (x, day) -> x.rateFor(day));
    }

    private static void promise7Trade() {
        range("trade, party", 0, 3, BOUNDS, (x, party) -> x.trade(party, 1, true, 0, 0, 5, 1));
        range("trade, lots", 1, 1000, ARGUMENT, (x, lots) -> x.trade(0, lots, true, 0, 0, 5, 1));
        range("trade, fixed", -500, 2000, ARGUMENT, (x, fixed) -> x.trade(0, 1, true, fixed, 0, 5, 1));
        range("trade, first", 0, 1000, ARGUMENT, (x, first) -> x.trade(0, 1, true, 0, first, 5, 1));
        range("trade, length", 5, 180, ARGUMENT, (x, length) -> x.trade(0, 1, true, 0, 0, length, 1));
        range("trade, periods", 1, 10, ARGUMENT, (x, periods) -> x.trade(0, 1, true, 0, 0, 5, periods));
    }

    private static void promise8SetTerms() {
        range("setTerms, trade", 0, 1, BOUNDS, (x, trade) -> x.setTerms(trade, 0, 0, 0));
        range("setTerms, spread", -500, 500, ARGUMENT, (x, spread) -> x.setTerms(0, spread, 0, 0));
        range("setTerms, dayCount", 0, 1, ARGUMENT, (x, dayCount) -> x.setTerms(0, 0, dayCount, 0));
        range("setTerms, compounding", Resetline.SIMPLE, Resetline.SPREAD_BESIDE, ARGUMENT,
                (x, compounding) -> x.setTerms(0, 0, 0, compounding));
    }

    private static void promise9BreakPart() {
        range("breakPart, trade", 0, 1, BOUNDS, (x, trade) -> x.breakPart(trade, 0, 1));
        range("breakPart, day", 0, 3000, ARGUMENT, (x, day) -> x.breakPart(0, day, 1));
        range("breakPart, lots", 1, 1000, ARGUMENT, (x, lots) -> x.breakPart(0, 0, lots));
    }

    private static void promise10HandOver() {
        range("handOver, trade", 0, 1, BOUNDS, (x, trade) -> x.handOver(trade, 0, 0));
        range("handOver, day", 0, 3000, ARGUMENT, (x, day) -> x.handOver(0, day, 0));
        range("handOver, party", 0, 3, BOUNDS, (x, party) -> x.handOver(0, 0, party));
    }

    private static void promise11Press() {
        range("press, day", 0, 3000, ARGUMENT, (x, day) -> x.press(day));
    }

    private static void promises13To17Periods() {
        periods("start", (x, trade) -> x.start(trade, 0), (x, k) -> x.start(0, k), (x, k) -> x.start(1, k));
        periods("end", (x, trade) -> x.end(trade, 0), (x, k) -> x.end(0, k), (x, k) -> x.end(1, k));
        periods("lots", (x, trade) -> x.lots(trade, 0), (x, k) -> x.lots(0, k), (x, k) -> x.lots(1, k));
        periods("floating", (x, trade) -> x.floating(trade, 0), (x, k) -> x.floating(0, k), (x, k) -> x.floating(1, k));
        periods("flow", (x, trade) -> x.flow(trade, 0), (x, k) -> x.flow(0, k), (x, k) -> x.flow(1, k));
    }

    private static void periods(String call, Use ofTrade, Use ofThree, Use ofOne) {
        range(call + ", trade", 0, 1, BOUNDS, ofTrade);
        range(call + ", period of three", 0, 2, BOUNDS, ofThree);
        range(call + ", period of one", 0, 0, BOUNDS, ofOne);
        // A trade with the greatest number of periods, and the period behind its last one.
        range(call + ", period of ten", 0, 9, BOUNDS, (x, period) -> {
            Resetline y = new Resetline();
            y.trade(0, 1000, true, 100, 0, 30, 10);
            ofThree.with(y, period);
        });
    }

    private static void promise18PartyOn() {
        range("partyOn, trade", 0, 1, BOUNDS, (x, trade) -> x.partyOn(trade, 0));
        range("partyOn, day", 0, 3000, ARGUMENT, (x, day) -> x.partyOn(0, day));
    }

    private static void promise19Cash() {
        range("cash, party", 0, 3, BOUNDS, (x, party) -> x.cash(party, 0));
        range("cash, day", 0, 3100, ARGUMENT, (x, day) -> x.cash(0, day));
    }

    private static void promise20CashOfDays() {
        range("cashOfDays, party", 0, 3, BOUNDS, (x, party) -> x.cashOfDays(party, 0, 0));
        range("cashOfDays, first", 0, 3100, ARGUMENT, (x, first) -> x.cashOfDays(0, first, lastFor(first)));
        range("cashOfDays, last, from 0", 0, 400, ARGUMENT, (x, last) -> x.cashOfDays(0, 0, last));
        range("cashOfDays, last, from 1000", 1000, 1400, ARGUMENT, (x, last) -> x.cashOfDays(0, 1000, last));
        range("cashOfDays, last, from 2699", 2699, 3099, ARGUMENT, (x, last) -> x.cashOfDays(0, 2699, last));
        range("cashOfDays, last, from 2700", 2700, 3100, ARGUMENT, (x, last) -> x.cashOfDays(0, 2700, last));
        range("cashOfDays, last, from 2701", 2701, 3100, ARGUMENT, (x, last) -> x.cashOfDays(0, 2701, last));
        range("cashOfDays, last, from 3100", 3100, 3100, ARGUMENT, (x, last) -> x.cashOfDays(0, 3100, last));
    }

    private static void promise21CashByTrades() {
        range("cashByTrades, party", 0, 3, BOUNDS, (x, party) -> x.cashByTrades(party, 0, 0));
        range("cashByTrades, first", 0, 3100, ARGUMENT, (x, first) -> x.cashByTrades(0, first, lastFor(first)));
        range("cashByTrades, last, from 0", 0, 400, ARGUMENT, (x, last) -> x.cashByTrades(0, 0, last));
        range("cashByTrades, last, from 1000", 1000, 1400, ARGUMENT, (x, last) -> x.cashByTrades(0, 1000, last));
        range("cashByTrades, last, from 2699", 2699, 3099, ARGUMENT, (x, last) -> x.cashByTrades(0, 2699, last));
        range("cashByTrades, last, from 2700", 2700, 3100, ARGUMENT, (x, last) -> x.cashByTrades(0, 2700, last));
        range("cashByTrades, last, from 2701", 2701, 3100, ARGUMENT, (x, last) -> x.cashByTrades(0, 2701, last));
        range("cashByTrades, last, from 3100", 3100, 3100, ARGUMENT, (x, last) -> x.cashByTrades(0, 3100, last));
    }

    /** The first day itself; below 0 the day 0, so that only the first day is wrong. */
    private static int lastFor(int first) {
        return Math.max(first, 0);
    }

    private static void promise22NextFlow() {
        range("nextFlow, party", 0, 3, BOUNDS, (x, party) -> x.nextFlow(party, 0));
        range("nextFlow, day", 0, 3100, ARGUMENT, (x, day) -> x.nextFlow(0, day));
    }

    private static void noTradeOfAnEmptyOffice() {
        Resetline x = new Resetline();
        for (int trade : new int[] {-1, 0, 1, 9, 10, Integer.MIN_VALUE, Integer.MAX_VALUE}) {
            String of = " of trade " + trade + " of none";
            checks.outOfBounds("setTerms" + of, () -> x.setTerms(trade, 0, 0, 0));
            checks.outOfBounds("breakPart" + of, () -> x.breakPart(trade, 0, 1));
            checks.outOfBounds("handOver" + of, () -> x.handOver(trade, 0, 0));
            checks.outOfBounds("start" + of, () -> x.start(trade, 0));
            checks.outOfBounds("end" + of, () -> x.end(trade, 0));
            checks.outOfBounds("lots" + of, () -> x.lots(trade, 0));
            checks.outOfBounds("floating" + of, () -> x.floating(trade, 0));
            checks.outOfBounds("flow" + of, () -> x.flow(trade, 0));
            checks.outOfBounds("partyOn" + of, () -> x.partyOn(trade, 0));
        }
    }
}
