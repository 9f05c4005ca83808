/** The promises one by one: ordinary inputs, the edges that the document names, and wrong inputs. */
final class PromisesTest {
    private static final Checks checks = new Checks();

    private static final int LOWEST = Integer.MIN_VALUE;
    private static final int HIGHEST = Integer.MAX_VALUE;

    public static void main(String[] args) {
        promise1NewObject();
        promise2Holiday();
        promise2HolidayLimits();
        promise3IsOpen();
        promise4Roll();
        promise5Fix();
        promise6RateFor();
        promise7Trade();
        promise7TradeRefuses();
        promise8SetTerms();
        promise8SetTermsRefuses();
        promise9BreakPart();
        promise10HandOver();
        promise11PressFits();
        promise11PressParties();
        promise11PressOrder();
        promise11PressKeepsCash();
        promise12Trades();
        promises13And14StartAndEnd();
        promise15Lots();
        promise16FloatingSimple();
        promise16FloatingCompounded();
        promise16FloatingRoundsDown();
        promise17Flow();
        promise18PartyOn();
        promise19Cash();
        promises20And21CashOfSpans();
        promises20And21Refuse();
        promise22NextFlow();
        checks.close();
    }

    private static void promise1NewObject() {
        Resetline x = new Resetline();
        checks.same("trades of a new office", x.trades(), 0);
        for (int day = 0; day <= 3000; day++) {
            Resetline fresh = new Resetline();
            checks.same("isOpen " + day, fresh.isOpen(day) ? 1 : 0, day % 7 < 5 ? 1 : 0);
            checks.same("rateFor " + day, fresh.rateFor(day), 0);
        }
        for (int party = 0; party <= 3; party++) {
            checks.same("nextFlow of a new office", x.nextFlow(party, 0), Resetline.NONE);
            checks.same("cash of a new office", x.cashByTrades(party, 0, 400), 0);
        }
        x.holiday(0, 0);
        x.fix(0, 7);
        x.trade(0, 1, true, 0, 0, 5, 1);
        Resetline y = new Resetline();
        checks.holds("another office has holidays of its own", y.isOpen(0));
        checks.same("another office's rate", y.rateFor(0), 0);
        checks.same("another office's trades", y.trades(), 0);
    }

    private static void promise2Holiday() {
        Resetline x = new Resetline();
        x.trade(0, 1, true, 0, 7, 7, 2);
        checks.same("first holiday", x.holiday(0, 7), 1);
        checks.same("second holiday", x.holiday(0, 3000), 2);
        checks.same("other town's holiday", x.holiday(1, 7), 1);
        checks.same("holiday on a closed day", x.holiday(1, 6), 2);
        checks.same("holiday of day 0", x.holiday(1, 0), 3);
        checks.same("start is rolled anew", x.start(0, 0), 8);
        checks.badState("the same holiday", () -> x.holiday(0, 7));
        checks.same("count after a refusal", x.holiday(0, 21), 3);
        checks.same("end is rolled anew", x.end(0, 1), 22);
    }

    private static void promise2HolidayLimits() {
        Resetline x = new Resetline();
        checks.outOfBounds("town -1", () -> x.holiday(-1, 0));
        checks.outOfBounds("town 2 goes ahead of the day", () -> x.holiday(2, 3001));
        checks.badArgument("day -1", () -> x.holiday(0, -1));
        checks.badArgument("day 3001", () -> x.holiday(1, 3001));
        for (int i = 0; i < 20; i++) {
            checks.same("holiday " + i, x.holiday(1, 10 * i), i + 1);
        }
        checks.badState("holiday 21", () -> x.holiday(1, 1));
        checks.badState("a holiday that a full town has", () -> x.holiday(1, 10));
        checks.badArgument("the day goes ahead of a full town", () -> x.holiday(1, HIGHEST));
        checks.holds("a refused holiday is not kept", x.isOpen(1));
        checks.same("the other town has room", x.holiday(0, 1), 1);
    }

    private static void promise3IsOpen() {
        Resetline x = new Resetline();
        checks.holds("day 4", x.isOpen(4));
        checks.holds("day 5 is closed", !x.isOpen(5));
        checks.holds("day 6 is closed", !x.isOpen(6));
        checks.holds("day 7", x.isOpen(7));
        checks.holds("day 3000", x.isOpen(3000));
        x.holiday(0, 8);
        x.holiday(1, 9);
        checks.holds("holiday of town 0", !x.isOpen(8));
        checks.holds("holiday of town 1", !x.isOpen(9));
        checks.holds("day 10", x.isOpen(10));
        checks.badArgument("day -1", () -> x.isOpen(-1));
        checks.badArgument("day 3001", () -> x.isOpen(3001));
        checks.badArgument("lowest day", () -> x.isOpen(LOWEST));
    }

    private static void promise4Roll() {
        Resetline x = new Resetline();
        checks.same("roll 4", x.roll(4), 4);
        checks.same("roll 5", x.roll(5), 7);
        checks.same("roll 6", x.roll(6), 7);
        x.holiday(0, 7);
        x.holiday(1, 8);
        checks.same("roll 5 over holidays", x.roll(5), 9);
        checks.same("roll 3000", x.roll(3000), 3000);
        x.holiday(1, 3000);
        checks.same("roll beyond 3000", x.roll(3000), 3003);
        checks.badArgument("day -1", () -> x.roll(-1));
        checks.badArgument("day 3001", () -> x.roll(3001));
        rollOverAllHolidays();
    }

    private static void rollOverAllHolidays() {
        Resetline x = new Resetline();
        for (int i = 0; i < 40; i++) {
            x.holiday(i / 20, i / 5 * 7 + i % 5);
        }
        checks.same("roll 0 over 40 holidays", x.roll(0), 56);
        x.trade(0, 1, true, 0, 0, 5, 10);
        checks.same("start of the period 0", x.start(0, 0), 56);
        checks.same("end of the period 9", x.end(0, 9), 56);
    }

    private static void promise5Fix() {
        Resetline x = new Resetline();
        checks.same("first fixing", x.fix(3000, 2000), 1);
        checks.same("second fixing", x.fix(0, -500), 2);
        checks.same("replaced fixing", x.fix(3000, 11), 2);
        checks.same("rate of the replaced fixing", x.rateFor(3000), 11);
        checks.badArgument("day -1", () -> x.fix(-1, 0));
        checks.badArgument("day 3001", () -> x.fix(3001, 0));
        checks.badArgument("rate -501", () -> x.fix(0, -501));
        checks.badArgument("rate 2001", () -> x.fix(0, 2001));
        checks.same("rate after refusals", x.rateFor(0), -500);
        for (int i = 1; i <= 58; i++) {
            checks.same("fixing of day " + i, x.fix(i, i), i + 2);
        }
        checks.badState("fixing 61", () -> x.fix(59, 1));
        checks.badArgument("the rate goes ahead of a full list", () -> x.fix(59, 2001));
        checks.same("replaced in a full list", x.fix(30, 300), 60);
        checks.same("its rate", x.rateFor(30), 300);
        checks.same("a refused fixing is not kept", x.rateFor(59), 58);
    }

    private static void promise6RateFor() {
        Resetline x = new Resetline();
        x.fix(50, 500);
        x.fix(10, 100);
        x.fix(30, 300);
        checks.same("ahead of the first", x.rateFor(9), 0);
        checks.same("on the first", x.rateFor(10), 100);
        checks.same("behind the first", x.rateFor(29), 100);
        checks.same("on the second", x.rateFor(30), 300);
        checks.same("behind the second", x.rateFor(49), 300);
        checks.same("on the last", x.rateFor(50), 500);
        checks.same("last day", x.rateFor(3000), 500);
        x.fix(10, -7);
        checks.same("a replaced rate below 0", x.rateFor(29), -7);
        checks.same("a later day keeps its rate", x.rateFor(30), 300);
        checks.badArgument("day -1", () -> x.rateFor(-1));
        checks.badArgument("day 3001", () -> x.rateFor(3001));
    }

    private static void promise7Trade() {
        Resetline x = new Resetline();
        x.fix(0, 300);
        checks.same("first trade", x.trade(3, 1000, true, 2000, 1000, 180, 10), 0);
        checks.same("second trade", x.trade(0, 1, false, -500, 0, 5, 1), 1);
        checks.same("its end", x.end(1, 0), 7);
        checks.same("simple, without spread, days counted", x.floating(1, 0), 2100);
        checks.same("it receives the fixed rate", x.flow(1, 0), -500 * 7 - 2100);
        checks.same("its lots", x.lots(0, 9), 1000);
        checks.same("its party", x.partyOn(0, 0), 3);
        checks.same("it pays the fixed rate", x.flow(0, 0), 1000L * (300 - 2000) * (x.end(0, 0) - x.start(0, 0)));
        checks.same("last start", x.start(0, 9), 2620);
        checks.same("last end", x.end(0, 9), 2800);
        for (int i = 2; i < 10; i++) {
            checks.same("trade " + i, x.trade(i % 4, i, false, i, i, i + 5, i), i);
        }
        checks.badState("trade 11", () -> x.trade(0, 1, true, 0, 0, 5, 1));
        checks.badArgument("lots go ahead of a full book", () -> x.trade(0, 0, true, 0, 0, 5, 1));
        checks.outOfBounds("the party goes ahead of a full book", () -> x.trade(4, 1, true, 0, 0, 5, 1));
        checks.same("trades", x.trades(), 10);
    }

    private static void promise7TradeRefuses() {
        Resetline x = new Resetline();
        checks.outOfBounds("party -1", () -> x.trade(-1, 1, true, 0, 0, 5, 1));
        checks.outOfBounds("party 4 goes ahead", () -> x.trade(4, 0, true, 9999, -1, 0, 0));
        checks.badArgument("lots 0", () -> x.trade(0, 0, true, 0, 0, 5, 1));
        checks.badArgument("lots 1001", () -> x.trade(0, 1001, true, 0, 0, 5, 1));
        checks.badArgument("fixed -501", () -> x.trade(0, 1, true, -501, 0, 5, 1));
        checks.badArgument("fixed 2001", () -> x.trade(0, 1, true, 2001, 0, 5, 1));
        checks.badArgument("first -1", () -> x.trade(0, 1, true, 0, -1, 5, 1));
        checks.badArgument("first 1001", () -> x.trade(0, 1, true, 0, 1001, 5, 1));
        checks.badArgument("length 4", () -> x.trade(0, 1, true, 0, 0, 4, 1));
        checks.badArgument("length 181", () -> x.trade(0, 1, true, 0, 0, 181, 1));
        checks.badArgument("periods 0", () -> x.trade(0, 1, true, 0, 0, 5, 0));
        checks.badArgument("periods 11", () -> x.trade(0, 1, true, 0, 0, 5, 11));
        checks.badArgument("highest periods", () -> x.trade(0, 1, true, 0, 0, 5, HIGHEST));
        checks.same("refused trades are not kept", x.trades(), 0);
        checks.same("the first has the number 0", x.trade(0, 1, true, 0, 0, 5, 1), 0);
    }

    private static void promise8SetTerms() {
        Resetline x = new Resetline();
        x.fix(0, 100);
        x.trade(0, 1, true, 40, 0, 5, 2);
        checks.same("days 7", x.floating(0, 0), 700);
        x.setTerms(0, -500, 1, Resetline.SIMPLE);
        checks.same("days 5, spread -500", x.floating(0, 0), -2000);
        checks.same("fixed interest of 5 days", x.flow(0, 0), -2000 - 200);
        x.setTerms(0, 500, 0, Resetline.SIMPLE);
        checks.same("days 7, spread 500", x.floating(0, 0), 4200);
        x.setTerms(0, 20, 0, Resetline.SPREAD_IN);
        checks.same("second period with the spread in it", x.floating(0, 1), 360);
        x.setTerms(0, 0, 0, Resetline.SIMPLE);
        checks.same("terms are set back", x.floating(0, 0), 700);
    }

    private static void promise8SetTermsRefuses() {
        Resetline x = new Resetline();
        x.fix(0, 100);
        x.trade(0, 2, true, 0, 0, 5, 1);
        checks.outOfBounds("trade 1 goes ahead", () -> x.setTerms(1, 501, 2, 3));
        checks.outOfBounds("trade -1", () -> x.setTerms(-1, 0, 0, 0));
        checks.badArgument("spread -501", () -> x.setTerms(0, -501, 0, 0));
        checks.badArgument("spread 501", () -> x.setTerms(0, 501, 0, 0));
        checks.badArgument("dayCount -1", () -> x.setTerms(0, 1, -1, 0));
        checks.badArgument("dayCount 2", () -> x.setTerms(0, 1, 2, 0));
        checks.badArgument("compounding -1", () -> x.setTerms(0, 1, 1, -1));
        checks.badArgument("compounding 3", () -> x.setTerms(0, 1, 1, 3));
        checks.same("nothing of it is set", x.floating(0, 0), 700);
        x.breakPart(0, 3000, 1);
        checks.badState("terms of a trade with a break", () -> x.setTerms(0, 1, 1, 1));
        checks.badArgument("the spread goes ahead of the break", () -> x.setTerms(0, 501, 1, 1));
        checks.same("nothing of it is set either", x.floating(0, 0), 700);
        x.trade(0, 2, false, 0, 0, 5, 1);
        x.setTerms(1, 1, 1, 0);
        checks.same("another trade has no break", x.floating(1, 0), 505);
    }

    private static void promise9BreakPart() {
        Resetline x = new Resetline();
        x.trade(0, 10, true, 0, 0, 7, 3);
        x.trade(0, 1000, true, 0, 0, 7, 3);
        checks.same("first break", x.breakPart(0, 7, 4), 1);
        checks.same("second break, earlier", x.breakPart(0, 0, 5), 2);
        checks.same("lots of the period 0", x.lots(0, 0), 5);
        checks.same("lots of the period 1", x.lots(0, 1), 1);
        checks.badState("more than the rest", () -> x.breakPart(0, 14, 2));
        checks.same("the whole rest, on the last day", x.breakPart(0, 3000, 1), 3);
        checks.badState("of no rest", () -> x.breakPart(0, 0, 1));
        checks.same("lots of the period 2", x.lots(0, 2), 1);
        checks.same("breaks are counted by trade", x.breakPart(1, 0, 1000), 1);
        checks.outOfBounds("trade 2 goes ahead", () -> x.breakPart(2, -1, 0));
        checks.outOfBounds("trade -1", () -> x.breakPart(-1, 0, 1));
        checks.badArgument("day -1", () -> x.breakPart(0, -1, 1));
        checks.badArgument("day 3001", () -> x.breakPart(0, 3001, 1));
        checks.badArgument("lots 0", () -> x.breakPart(0, 0, 0));
        checks.badArgument("lots -1", () -> x.breakPart(0, 0, -1));
        checks.badArgument("lots 1001 go ahead of the rest", () -> x.breakPart(0, 0, 1001));
    }

    private static void promise10HandOver() {
        Resetline x = new Resetline();
        x.trade(1, 1, true, 0, 0, 5, 1);
        x.trade(2, 1, true, 0, 0, 5, 1);
        checks.same("from the first party", x.handOver(0, 100, 2), 1);
        checks.same("for the same day again", x.handOver(0, 100, 3), 2);
        checks.same("an earlier day", x.handOver(0, 50, 0), 1);
        checks.same("between both", x.handOver(0, 99, 2), 0);
        checks.same("a later day", x.handOver(0, 3000, 1), 3);
        checks.same("to the same party", x.handOver(0, 0, 1), 1);
        checks.outOfBounds("trade 2", () -> x.handOver(2, 0, 0));
        checks.outOfBounds("party 4 goes ahead", () -> x.handOver(0, 3001, 4));
        checks.outOfBounds("party -1", () -> x.handOver(0, 0, -1));
        checks.badArgument("day -1", () -> x.handOver(0, -1, 0));
        checks.badArgument("day 3001", () -> x.handOver(0, 3001, 0));
        for (int i = 0; i < 4; i++) {
            x.handOver(0, 200 + i, 0);
        }
        checks.badState("handover 11", () -> x.handOver(0, 300, 3));
        checks.badArgument("the day goes ahead of the limit", () -> x.handOver(0, 3001, 3));
        checks.outOfBounds("the party goes ahead of the limit", () -> x.handOver(0, 300, 4));
        checks.same("a refused handover is not kept", x.partyOn(0, 300), 0);
        checks.same("another trade was not handed over", x.handOver(1, 0, 0), 2);
    }

    private static void promise11PressFits() {
        checks.same("pair that fits", pressed(100, 7, 14, 2, 0, 0, 0, false), 3);
        checks.same("same side", pressed(100, 7, 14, 2, 0, 0, 0, true), 0);
        checks.same("other fixed rate", pressed(101, 7, 14, 2, 0, 0, 0, false), 0);
        checks.same("other first day, same start", pressed(100, 6, 14, 2, 0, 0, 0, false), 0);
        checks.same("other length", pressed(100, 7, 15, 2, 0, 0, 0, false), 0);
        checks.same("other number of periods", pressed(100, 7, 14, 3, 0, 0, 0, false), 0);
        checks.same("other spread", pressed(100, 7, 14, 2, 1, 0, 0, false), 0);
        checks.same("other day count", pressed(100, 7, 14, 2, 0, 1, 0, false), 0);
        checks.same("other compounding", pressed(100, 7, 14, 2, 0, 0, 1, false), 0);
        Resetline x = new Resetline();
        checks.badArgument("day -1", () -> x.press(-1));
        checks.badArgument("day 3001", () -> x.press(3001));
        checks.same("press of an empty book", x.press(3000), 0);
    }

    private static int pressed(int fixed, int first, int length, int periods, int spread, int dayCount, int way,
            boolean paysFixed) {
        Resetline x = new Resetline();
        x.trade(0, 5, true, 100, 7, 14, 2);
        x.trade(0, 3, paysFixed, fixed, first, length, periods);
        x.setTerms(1, spread, dayCount, way);
        return x.press(7);
    }

    private static void promise11PressParties() {
        Resetline x = new Resetline();
        x.trade(0, 5, true, 100, 0, 7, 2);
        x.trade(1, 3, false, 100, 0, 7, 2);
        checks.same("other parties", x.press(0), 0);
        x.handOver(1, 14, 0);
        checks.same("same party on the last pay day alone", x.press(0), 0);
        checks.same("no period starts on the day or later", x.press(8), 0);
        checks.same("only the last period counts", x.press(7), 3);
        checks.same("lots of the period 0", x.lots(0, 0), 5);
        checks.same("lots of the period 1", x.lots(0, 1), 2);
        checks.same("nothing is left of the other", x.lots(1, 1), 0);
        checks.badState("a press is a break", () -> x.setTerms(0, 0, 0, 0));
        checks.badState("for both", () -> x.setTerms(1, 0, 0, 0));
        checks.same("breaks of the trade", x.breakPart(0, 0, 1), 2);

        Resetline y = new Resetline();
        y.trade(0, 5, true, 100, 0, 7, 2);
        y.trade(0, 3, false, 100, 0, 7, 2);
        y.handOver(0, 8, 1);
        y.handOver(0, 14, 0);
        checks.same("parties differ between pay days alone", y.press(0), 3);
        y.breakPart(0, 0, 2);
        checks.same("nothing is left to press", y.press(0), 0);
    }

    private static void promise11PressOrder() {
        Resetline x = new Resetline();
        x.trade(0, 4, true, 1, 0, 7, 1);
        x.trade(0, 6, false, 1, 0, 7, 1);
        x.trade(0, 5, true, 1, 0, 7, 1);
        x.trade(0, 9, false, 1, 0, 7, 1);
        // 4 of 0 and 1, none of 0 and 3, then 2 of 1 and 2, then 3 of 2 and 3.
        checks.same("all pairs", x.press(0), 9);
        checks.same("lots of 0", x.lots(0, 0), 0);
        checks.same("lots of 1", x.lots(1, 0), 0);
        checks.same("lots of 2", x.lots(2, 0), 0);
        checks.same("lots of 3", x.lots(3, 0), 6);
        checks.same("breaks of 3", x.breakPart(3, 0, 1), 2);

        Resetline y = new Resetline();
        y.trade(0, 5, true, 1, 0, 7, 2);
        y.trade(0, 5, false, 1, 0, 7, 2);
        y.breakPart(0, 3000, 4);
        checks.same("the rest counts breaks of later days", y.press(0), 1);
    }

    private static void promise11PressKeepsCash() {
        for (int party = 0; party < 4; party++) {
            Resetline x = officeToPress();
            Resetline y = officeToPress();
            checks.same("pressed", y.press(40), 9);
            for (int day = 0; day < 200; day++) {
                checks.same("cash " + party + " " + day, y.cash(party, day), x.cash(party, day));
            }
        }
    }

    private static Resetline officeToPress() {
        Resetline x = new Resetline();
        x.fix(0, 333);
        x.fix(40, -77);
        x.holiday(1, 42);
        x.trade(0, 9, true, 120, 3, 13, 8);
        x.trade(2, 4, false, 120, 3, 13, 8);
        x.trade(2, 8, false, 120, 3, 13, 8);
        for (int trade = 0; trade < 3; trade++) {
            x.setTerms(trade, 15, 0, Resetline.SPREAD_BESIDE);
            x.handOver(trade, 50, 1);
        }
        return x;
    }

    private static void promise12Trades() {
        Resetline x = new Resetline();
        checks.same("none", x.trades(), 0);
        for (int i = 1; i <= 10; i++) {
            x.trade(0, 1, true, 0, 0, 5, 1);
            checks.same("trades", x.trades(), i);
        }
        x.breakPart(0, 0, 1);
        checks.same("a broken trade stays", x.trades(), 10);
    }

    private static void promises13And14StartAndEnd() {
        Resetline x = new Resetline();
        x.trade(0, 1, true, 0, 5, 5, 3);
        checks.same("start 0, from day 5", x.start(0, 0), 7);
        checks.same("end 0, from day 10", x.end(0, 0), 10);
        checks.same("start 1", x.start(0, 1), 10);
        checks.same("end 1, from day 15", x.end(0, 1), 15);
        checks.same("end 2, from day 20", x.end(0, 2), 21);
        x.holiday(1, 10);
        checks.same("end 0 with a holiday", x.end(0, 0), 11);
        checks.same("start 1 with a holiday", x.start(0, 1), 11);
        checks.same("end 1 does not follow it", x.end(0, 1), 15);
        checks.outOfBounds("start, period -1", () -> x.start(0, -1));
        checks.outOfBounds("start, period 3", () -> x.start(0, 3));
        checks.outOfBounds("start, trade 1", () -> x.start(1, 0));
        checks.outOfBounds("start, trade -1", () -> x.start(-1, 0));
        checks.outOfBounds("end, period -1", () -> x.end(0, -1));
        checks.outOfBounds("end, period 3", () -> x.end(0, 3));
        checks.outOfBounds("end, highest period", () -> x.end(0, HIGHEST));
        checks.outOfBounds("end, trade 1", () -> x.end(1, 0));
        checks.outOfBounds("end, trade -1", () -> x.end(-1, 0));
    }

    private static void promise15Lots() {
        Resetline x = new Resetline();
        x.trade(0, 10, true, 0, 0, 11, 3);
        x.breakPart(0, 13, 3);
        checks.same("starts on day 0", x.lots(0, 0), 10);
        checks.same("starts on day 11", x.lots(0, 1), 10);
        checks.same("starts on day 22", x.lots(0, 2), 7);
        x.holiday(0, 11);
        checks.same("starts on day 14 by a holiday", x.lots(0, 1), 7);
        checks.same("that start", x.start(0, 1), 14);
        x.breakPart(0, 14, 2);
        checks.same("a break for the start itself", x.lots(0, 1), 5);
        x.breakPart(0, 15, 1);
        checks.same("a break for the day behind it", x.lots(0, 1), 5);
        checks.outOfBounds("period 3", () -> x.lots(0, 3));
        checks.outOfBounds("period -1", () -> x.lots(0, -1));
        checks.outOfBounds("trade 1", () -> x.lots(1, 0));
        checks.outOfBounds("trade -1", () -> x.lots(-1, 0));
    }

    private static void promise16FloatingSimple() {
        Resetline x = new Resetline();
        x.trade(0, 9, true, 50, 5, 7, 2);
        checks.same("without fixings", x.floating(0, 0), 0);
        x.fix(5, 10);
        checks.same("the rate of the rolled start", x.floating(0, 0), 70);
        x.fix(7, 20);
        checks.same("a fixing for the start", x.floating(0, 0), 140);
        x.fix(8, 90);
        checks.same("a fixing behind the start", x.floating(0, 0), 140);
        checks.same("the next period", x.floating(0, 1), 630);
        x.setTerms(0, -25, 0, Resetline.SIMPLE);
        checks.same("below 0", x.floating(0, 0), -35);
        checks.outOfBounds("period 2", () -> x.floating(0, 2));
        checks.outOfBounds("period -1", () -> x.floating(0, -1));
        checks.outOfBounds("trade 1", () -> x.floating(1, 0));
        checks.outOfBounds("trade -1", () -> x.floating(-1, 0));
    }

    private static void promise16FloatingCompounded() {
        Resetline x = new Resetline();
        x.fix(0, 1000);
        x.fix(36, 2000);
        x.trade(0, 1, true, 0, 0, 36, 3);
        x.setTerms(0, 500, 1, Resetline.SPREAD_IN);
        // 54000; (3600000 + 54000) * 2500 * 36 / 3600000; (3600000 + 54000 + 91350) * the same
        checks.same("spread in it, period 0", x.floating(0, 0), 54000);
        checks.same("spread in it, period 1", x.floating(0, 1), 91350);
        checks.same("spread in it, period 2", x.floating(0, 2), 93633);
        x.setTerms(0, 500, 1, Resetline.SPREAD_BESIDE);
        // 36000 + 18000; 3636000 * 72000 / 3600000 + 18000; 3708720 * 72000 / 3600000 + 18000
        checks.same("spread beside it, period 0", x.floating(0, 0), 54000);
        checks.same("spread beside it, period 1", x.floating(0, 1), 90720);
        checks.same("spread beside it, period 2", x.floating(0, 2), 92174);
        x.setTerms(0, 500, 1, Resetline.SIMPLE);
        checks.same("simple, period 2", x.floating(0, 2), 90000);
        x.setTerms(0, 500, 1, Resetline.SPREAD_IN);
        x.fix(0, -500);
        checks.same("an earlier rate is replaced", x.floating(0, 1), 90000);
        Resetline y = new Resetline();
        y.fix(0, 1000);
        y.trade(0, 1, true, 0, 0, 5, 2);
        y.setTerms(0, 0, 0, Resetline.SPREAD_IN);
        // 7 days, then 3: 7000; 3607000 * 3000 / 3600000 is 3005.8..
        checks.same("each period grows by its own days, period 0", y.floating(0, 0), 7000);
        checks.same("each period grows by its own days, period 1", y.floating(0, 1), 3005);
    }

    private static void promise16FloatingRoundsDown() {
        Resetline x = new Resetline();
        x.fix(0, -1);
        x.trade(0, 1, true, 0, 0, 7, 3);
        x.setTerms(0, 0, 0, Resetline.SPREAD_IN);
        // -7; (3600000 - 7) * -7 / 3600000 is -6.99.., rounded down to -7
        checks.same("below 0, period 0", x.floating(0, 0), -7);
        checks.same("below 0, period 1", x.floating(0, 1), -7);
        x.setTerms(0, 3, 0, Resetline.SPREAD_BESIDE);
        checks.same("below 0, beside the spread", x.floating(0, 1), -7 + 21);
        x.setTerms(0, 3, 0, Resetline.SPREAD_IN);
        // 14; (3600000 + 14) * 14 / 3600000 is 14.00..
        checks.same("above 0, period 1", x.floating(0, 1), 14);
        Resetline y = new Resetline();
        y.fix(0, 2000);
        y.trade(0, 1, true, 0, 1000, 180, 10);
        y.setTerms(0, 500, 1, Resetline.SPREAD_IN);
        long due = 0;
        for (int i = 0; i < 10; i++) {
            long grown = (3600000 + due) / 8;
            checks.same("the greatest growth, period " + i, y.floating(0, i), grown);
            due += grown;
        }
    }

    private static void promise17Flow() {
        Resetline x = new Resetline();
        x.fix(0, 300);
        x.trade(0, 10, true, 100, 0, 7, 2);
        x.trade(0, 10, false, 100, 0, 7, 2);
        checks.same("pays the fixed rate", x.flow(0, 0), 10 * 200 * 7);
        checks.same("receives the fixed rate", x.flow(1, 0), -10 * 200 * 7);
        x.breakPart(0, 7, 4);
        checks.same("ahead of the break", x.flow(0, 0), 10 * 200 * 7);
        checks.same("behind the break", x.flow(0, 1), 6 * 200 * 7);
        x.breakPart(0, 0, 6);
        checks.same("without lots", x.flow(0, 1), 0);
        x.setTerms(1, 0, 0, Resetline.SPREAD_IN);
        // (3600000 + 2100) * 2100 / 3600000 is 2101.2..
        checks.same("compounded", x.flow(1, 1), 10 * (700 - 2101));
        x.setTerms(1, 0, 1, Resetline.SIMPLE);
        x.holiday(0, 7);
        checks.same("fixed and floating by the length", x.flow(1, 0), -10 * 200 * 7);
        Resetline y = new Resetline();
        y.fix(0, 2000);
        y.trade(0, 1000, true, -500, 0, 180, 10);
        y.setTerms(0, 500, 1, Resetline.SPREAD_IN);
        checks.same("a great flow", y.flow(0, 9), 1000 * (y.floating(0, 9) + 500 * 180));
        checks.outOfBounds("period 2", () -> x.flow(0, 2));
        checks.outOfBounds("period -1", () -> x.flow(0, -1));
        checks.outOfBounds("trade 2", () -> x.flow(2, 0));
        checks.outOfBounds("trade -1", () -> x.flow(-1, 0));
    }

    private static void promise18PartyOn() {
        Resetline x = new Resetline();
        x.trade(3, 1, true, 0, 100, 5, 1);
        checks.same("ahead of the first day too", x.partyOn(0, 0), 3);
        x.handOver(0, 20, 1);
        x.handOver(0, 10, 2);
        checks.same("ahead of all", x.partyOn(0, 9), 3);
        checks.same("on the earlier one", x.partyOn(0, 10), 2);
        checks.same("ahead of the later one", x.partyOn(0, 19), 2);
        checks.same("on the later one", x.partyOn(0, 20), 1);
        checks.same("last day", x.partyOn(0, 3000), 1);
        x.handOver(0, 20, 0);
        checks.same("the one entered last", x.partyOn(0, 20), 0);
        x.handOver(0, 0, 1);
        checks.same("from day 0 on", x.partyOn(0, 0), 1);
        checks.outOfBounds("trade 1 goes ahead", () -> x.partyOn(1, 3001));
        checks.outOfBounds("trade -1", () -> x.partyOn(-1, 0));
        checks.badArgument("day -1", () -> x.partyOn(0, -1));
        checks.badArgument("day 3001", () -> x.partyOn(0, 3001));
    }

    private static void promise19Cash() {
        Resetline x = new Resetline();
        x.fix(0, 100);
        x.trade(0, 2, true, 0, 0, 7, 2);
        x.trade(0, 3, false, 0, 0, 14, 1);
        checks.same("one flow", x.cash(0, 7), 1400);
        checks.same("two flows", x.cash(0, 14), 1400 - 4200);
        checks.same("no flow", x.cash(0, 13), 0);
        checks.same("another party", x.cash(1, 14), 0);
        x.handOver(0, 14, 1);
        checks.same("handed over on the pay day", x.cash(1, 14), 1400);
        checks.same("what stays", x.cash(0, 14), -4200);
        x.handOver(1, 15, 1);
        checks.same("handed over behind the pay day", x.cash(0, 14), -4200);
        x.holiday(0, 14);
        checks.same("not paid on a holiday", x.cash(0, 14), 0);
        checks.same("paid behind it, of the party of then", x.cash(1, 15), 2 * 800 - 3 * 1500);
        checks.same("last day", x.cash(3, 3100), 0);
        checks.outOfBounds("party 4 goes ahead", () -> x.cash(4, 3101));
        checks.outOfBounds("party -1", () -> x.cash(-1, 0));
        checks.badArgument("day -1", () -> x.cash(0, -1));
        checks.badArgument("day 3101", () -> x.cash(0, 3101));
        severalPeriodsPaidOnOneDay();
        cashBeyondInt();
    }

    private static void cashBeyondInt() {
        Resetline x = new Resetline();
        x.fix(0, 2000);
        for (int i = 0; i < 10; i++) {
            x.trade(0, 1000, true, -500, 0, 180, 10);
            x.setTerms(i, 500, 1, Resetline.SPREAD_IN);
        }
        checks.holds("cash beyond int", x.cash(0, 1800) > HIGHEST);
        checks.same("it is told whole", x.cash(0, 1800), 10000 * (x.floating(0, 9) + 90000));
        checks.same("by days too", x.cashOfDays(0, 1700, 1800), 10000 * (x.floating(0, 9) + 90000));
        checks.same("by trades too", x.cashByTrades(0, 1700, 1800), 10000 * (x.floating(0, 9) + 90000));
    }

    private static void severalPeriodsPaidOnOneDay() {
        Resetline x = new Resetline();
        x.fix(0, 100);
        x.trade(2, 1, true, 0, 0, 5, 3);
        x.setTerms(0, 0, 1, Resetline.SIMPLE);
        for (int day = 7; day < 12; day++) {
            x.holiday(0, day);
        }
        checks.same("end 0", x.end(0, 0), 14);
        checks.same("end 1", x.end(0, 1), 14);
        checks.same("both flows", x.cash(2, 14), 1000);
        checks.same("the third flow", x.cash(2, 15), 500);
    }

    private static Resetline officeWithFlows() {
        Resetline x = new Resetline();
        x.fix(0, 100);
        x.trade(0, 1, true, 0, 0, 7, 4);
        x.trade(0, 1, true, 40, 0, 14, 2);
        x.trade(1, 5, false, 0, 0, 7, 4);
        x.handOver(0, 28, 1);
        return x;
    }

    private static void promises20And21CashOfSpans() {
        Resetline x = officeWithFlows();
        spans(x, 0, 0, 400, 700 + 700 + 840 + 700 + 840);
        spans(x, 0, 7, 7, 700);
        spans(x, 0, 8, 13, 0);
        spans(x, 0, 8, 14, 1540);
        spans(x, 0, 14, 21, 2240);
        spans(x, 0, 14, 20, 1540);
        spans(x, 1, 0, 27, -3 * 3500);
        spans(x, 1, 28, 428, 700 - 3500);
        spans(x, 2, 0, 400, 0);
        spans(x, 3, 2700, 3100, 0);
        spans(x, 3, 3100, 3100, 0);
        x.breakPart(2, 14, 5);
        spans(x, 1, 0, 400, 700 - 2 * 3500);
        x.holiday(0, 7);
        spans(x, 0, 7, 7, 0);
        spans(x, 0, 8, 8, 800);
    }

    private static void spans(Resetline x, int party, int first, int last, long due) {
        String text = " " + party + " " + first + " " + last;
        checks.same("cashOfDays" + text, x.cashOfDays(party, first, last), due);
        checks.same("cashByTrades" + text, x.cashByTrades(party, first, last), due);
    }

    private static void promises20And21Refuse() {
        Resetline x = officeWithFlows();
        int[][] wrongParties = {{-1, 0, 0}, {4, 0, 0}, {4, -1, 5}, {HIGHEST, 9, 8}};
        for (int[] a : wrongParties) {
            checks.outOfBounds("cashOfDays " + a[0], () -> x.cashOfDays(a[0], a[1], a[2]));
            checks.outOfBounds("cashByTrades " + a[0], () -> x.cashByTrades(a[0], a[1], a[2]));
        }
        int[][] wrongDays = {
            {-1, 5}, {LOWEST, 0}, {3101, 3101}, {5, 4}, {5, -1}, {0, 401}, {2000, 2401}, {2701, 3101}, {3100, 3101},
            {0, HIGHEST}, {HIGHEST, HIGHEST}, {HIGHEST - 400, HIGHEST}, {0, LOWEST},
        };
        for (int[] a : wrongDays) {
            checks.badArgument("cashOfDays " + a[0] + " " + a[1], () -> x.cashOfDays(0, a[0], a[1]));
            checks.badArgument("cashByTrades " + a[0] + " " + a[1], () -> x.cashByTrades(0, a[0], a[1]));
        }
    }

    private static void promise22NextFlow() {
        Resetline x = new Resetline();
        x.trade(0, 1, true, 0, 0, 28, 2);
        x.trade(0, 1, true, 0, 0, 7, 3);
        checks.same("flows of 0, from day 0", x.nextFlow(0, 0), 7);
        checks.same("from the day itself", x.nextFlow(0, 7), 7);
        checks.same("from the day behind it", x.nextFlow(0, 8), 14);
        checks.same("of the earlier trade", x.nextFlow(0, 22), 28);
        checks.same("the last one", x.nextFlow(0, 56), 56);
        checks.same("behind the last one", x.nextFlow(0, 57), Resetline.NONE);
        checks.same("of another party", x.nextFlow(1, 0), Resetline.NONE);
        x.breakPart(1, 0, 1);
        checks.same("of periods with 0 lots", x.nextFlow(0, 0), 7);
        x.handOver(0, 56, 1);
        x.handOver(1, 0, 2);
        checks.same("what stays", x.nextFlow(0, 0), 28);
        checks.same("what does not stay", x.nextFlow(0, 29), Resetline.NONE);
        checks.same("what was handed over", x.nextFlow(1, 0), 56);
        x.holiday(0, 56);
        checks.same("rolled on", x.nextFlow(1, 56), 57);
        checks.same("last day", x.nextFlow(3, 3100), Resetline.NONE);
        checks.outOfBounds("party 4 goes ahead", () -> x.nextFlow(4, 3101));
        checks.outOfBounds("party -1", () -> x.nextFlow(-1, 0));
        checks.badArgument("day -1", () -> x.nextFlow(0, -1));
        checks.badArgument("day 3101", () -> x.nextFlow(0, 3101));
    }
}
