/**
 * The sentences of the document that name a boundary case, one by one, in its order; each test begins with its
 * sentence. What the ranges of the arguments say is in RangesTest, what refused calls do in RefusalsTest.
 */
final class BoundariesTest {
    private static final Checks checks = new Checks();

    public static void main(String[] args) {
        terms();
        termsOfInterest();
        termsOfPartiesAndPressing();
        promisesOfCalendarsAndFixings();
        promisesOfTrades();
        promisesOfCash();
        checks.close();
    }

    private static void terms() {
        usedForAtMost512Calls();
        daysAreNumberedFrom0On();
        ratesAreInTenThousandths();
        aLotIs3600000Cents();
        partiesAreNumbered0To3();
        openIfRemainderIsLessThan5();
        holidayOfNeitherTown();
        firstOpenDayThatIsNotEarlier();
        fixingOfTheGreatestDayThatIsNotLater();
        rate0IfThereIsNone();
        tradesAreNumberedFrom0UpTo10();
        periodsAreNumberedFrom0On();
        bareStartIsCountedFromTheFirstDay();
        bareEndIsTheBareStartOfTheNextPeriod();
        daysAreTheEndLessTheStart();
        daysAreTheLengthWithDayCount1();
        breaksNotLaterThanTheStart();
        restCountsAllBreaks();
    }

    private static void termsOfInterest() {
        fixedInterestIsTheRateTimesTheDays();
        rateIsThatOfTheStart();
        simpleInterest();
        nothingIsCompoundedAheadOfPeriod0();
        compoundedWithTheSpreadInIt();
        compoundedWithTheSpreadBesideIt();
        roundedDownAlsoBelow0();
        lessThanNothingIsCompounded();
        flowIsCountedForTheOffice();
        flowOf0Lots();
    }

    private static void termsOfPartiesAndPressing() {
        handoverWithADayThatIsNotLater();
        handoverThatWasEnteredLast();
        orElseThePartyOfTheMaking();
        cashIsThatOfThePartyOnThatDay();
        cashIsTheSumOfTheFlowsOfThatDay();
        fitByEachTermAndOppositeSides();
        pressedByRisingNumbers();
        samePartyOnAllPayDays();
        periodsThatStartOnThatDayOrLater();
        suchPeriodsAreNeeded();
        lesserRestIfAbove0();
        breaksOfAPairCountForTheNextPairs();
        pressingChangesNoDaysCash();
        noneIsMinus1();
    }

    private static void promisesOfCalendarsAndFixings() {
        newOfficeIsEmpty();
        holidaysOfTheTownThen();
        townHasThisHoliday();
        townHas20Holidays();
        rolledBeyond3000();
        fixingForTheSameDayIsReplaced();
        noMoreThan60Fixings();
    }

    private static void promisesOfTrades() {
        madeWithoutTerms();
        noMoreThan10Trades();
        noTermsOfATradeWithABreak();
        howManyBreaksThen();
        restIsLessThanThat();
        partyOfThatDayBefore();
        handedOver10Times();
        howManyLotsArePressed();
        howManyTrades();
        latestEndOfAll();
    }

    private static void promisesOfCash() {
        centsTheOfficePaysAreBelow0();
        cashOfAnyDay();
        cashIsToldWhole();
        bothDaysCounted();
        firstToFirstPlus400();
        theSameTradeByTrade();
        fromADayOn();
        flowsOf0Together();
        periodsWith0Lots();
        noneIfThereIsNone();
    }

    // ---- terms

    /** "An object is used for at most 512 calls after it has been made": the 512th is answered too. */
    private static void usedForAtMost512Calls() {
        Resetline x = new Resetline();
        x.trade(0, 1000, true, 0, 0, 5, 1);
        for (int i = 1; i <= 510; i++) {
            checks.same("break " + i, x.breakPart(0, 0, 1), i);
        }
        checks.same("lots behind 510 breaks", x.lots(0, 0), 490);
        allListsFull();
    }

    /** All lists full: 40 + 60 + 10 + 10 + 100 calls, then 271 breaks and 21 questions. */
    private static void allListsFull() {
        Resetline x = new Resetline();
        Oracle due = new Oracle();
        for (int i = 0; i < 20; i++) {
            x.holiday(0, 149 * i);
            due.holiday(0, 149 * i);
            x.holiday(1, 2700 + 7 * i);
            due.holiday(1, 2700 + 7 * i);
        }
        for (int i = 0; i < 60; i++) {
            x.fix(50 * i, 40 * i - 400);
            due.fix(50 * i, 40 * i - 400);
        }
        for (int i = 0; i < 10; i++) {
            x.trade(i % 4, 1000, i % 2 == 0, 100, 100 * i, 180, 10);
            due.trade(i % 4, 1000, i % 2 == 0, 100, 100 * i, 180, 10);
            x.setTerms(i, 50 * i, i % 2, i % 3);
            due.setTerms(i, 50 * i, i % 2, i % 3);
        }
        for (int i = 0; i < 100; i++) {
            checks.same("handover", x.handOver(i / 10, 30 * i, i % 4), due.handOver(i / 10, 30 * i, i % 4));
        }
        for (int i = 0; i < 271; i++) {
            checks.same("break", x.breakPart(i % 10, 10 * i, 30), due.breakPart(i % 10, 10 * i, 30));
        }
        for (int party = 0; party < 4; party++) {
            checks.same("the last flows of all", x.cashByTrades(party, 2500, 2900),
                    due.cashBetweenDays(party, 2500, 2900));
            checks.same("the next flow of all", x.nextFlow(party, 1500), due.nextFlow(party, 1500));
        }
        for (int period = 0; period < 10; period++) {
            checks.same("flow of all", x.flow(4, period), due.flow(4, period));
        }
        checks.same("call 510", x.cashOfDays(1, 1000, 1400), due.cashBetweenDays(1, 1000, 1400));
        checks.same("call 511", x.floating(8, 9), due.floating(8, 9));
        checks.same("call 512", x.lots(9, 9), due.lots(9, 9));
    }

    /** "Days are numbered from 0 on." */
    private static void daysAreNumberedFrom0On() {
        Resetline x = new Resetline();
        checks.holds("day 0 is open", x.isOpen(0));
        checks.same("roll 0", x.roll(0), 0);
        x.fix(0, 70);
        checks.same("a fixing for day 0", x.rateFor(0), 70);
        x.trade(1, 9, true, 0, 0, 7, 1);
        checks.same("a trade from day 0", x.start(0, 0), 0);
        x.breakPart(0, 0, 4);
        checks.same("a break for day 0", x.lots(0, 0), 5);
        x.handOver(0, 0, 2);
        checks.same("a handover for day 0", x.partyOn(0, 0), 2);
        x.holiday(1, 0);
        checks.holds("a holiday on day 0", !x.isOpen(0));
        checks.same("roll 0 over it", x.roll(0), 1);
        checks.same("the trade from day 0 over it", x.start(0, 0), 1);
    }

    /** "Rates are in ten-thousandths. A lot is 3600000 cents, so that interest .. is the rate times the days". */
    private static void ratesAreInTenThousandths() {
        Resetline x = new Resetline();
        x.fix(0, 1);
        x.trade(0, 1, true, 0, 0, 7, 1);
        checks.same("the least rate for a lot", x.flow(0, 0), 7);
        x.fix(0, -1);
        checks.same("the greatest one below 0", x.flow(0, 0), -7);
        x.fix(0, -500);
        checks.same("the rate -500", x.flow(0, 0), -3500);
        x.fix(0, 2000);
        checks.same("the rate 2000", x.flow(0, 0), 14000);
    }

    /** "A lot is 3600000 cents": neither more nor less is compounded. */
    private static void aLotIs3600000Cents() {
        Resetline x = new Resetline();
        x.fix(0, 2000);
        x.trade(0, 1, true, 0, 0, 180, 2);
        x.setTerms(0, 0, 1, Resetline.SPREAD_IN);
        // A tenth of a lot and of a tenth is whole; with one cent more in a lot it would be a little less.
        checks.same("a tenth of 3960000", x.floating(0, 1), 396000);
        x.fix(180, -500);
        // A fortieth is whole too; with one cent less in a lot it would be a little further below 0.
        checks.same("a fortieth of 3960000, below 0", x.floating(0, 1), -99000);
    }

    /** "Parties are numbered 0 to 3." */
    private static void partiesAreNumbered0To3() {
        Resetline x = new Resetline();
        for (int party = 0; party <= 3; party++) {
            x.trade(party, 1 + party, true, 100, 7 * party, 7, 1);
        }
        for (int party = 0; party <= 3; party++) {
            int payDay = 7 + 7 * party;
            long due = -700 * (1 + party);
            checks.same("party of the trade " + party, x.partyOn(party, 0), party);
            checks.same("cash of party " + party, x.cash(party, payDay), due);
            checks.same("cash of its days", x.cashOfDays(party, 0, 400), due);
            checks.same("cash by its trades", x.cashByTrades(party, 0, 400), due);
            checks.same("next flow of party " + party, x.nextFlow(party, 0), payDay);
        }
        for (int party = 0; party <= 3; party++) {
            checks.same("handed over from " + party, x.handOver(party, 5, 3 - party), party);
            checks.same("handed over to " + (3 - party), x.partyOn(party, 5), 3 - party);
        }
    }

    /** "A day is open if its remainder by 7 is less than 5". */
    private static void openIfRemainderIsLessThan5() {
        for (int week = 0; week <= 2996; week += 749) {
            Resetline x = new Resetline();
            for (int day = 0; day < 7 && week + day <= 3000; day++) {
                checks.same("isOpen " + (week + day), x.isOpen(week + day) ? 1 : 0, day < 5 ? 1 : 0);
            }
        }
        Resetline x = new Resetline();
        checks.holds("2994 has the remainder 5", !x.isOpen(2994));
        checks.holds("2995 has the remainder 6", !x.isOpen(2995));
        checks.holds("2996 has the remainder 0", x.isOpen(2996));
        checks.holds("3000 has the remainder 4", x.isOpen(3000));
    }

    /** "and it is a holiday of neither town, 0 or 1." */
    private static void holidayOfNeitherTown() {
        Resetline x = new Resetline();
        x.holiday(0, 1);
        x.holiday(1, 2);
        x.holiday(0, 3);
        x.holiday(1, 3);
        x.holiday(0, 5);
        checks.holds("ahead of the holidays", x.isOpen(0));
        checks.holds("a holiday of town 0 alone", !x.isOpen(1));
        checks.holds("a holiday of town 1 alone", !x.isOpen(2));
        checks.holds("a holiday of both", !x.isOpen(3));
        checks.holds("behind the holidays", x.isOpen(4));
        checks.holds("a holiday on a closed day", !x.isOpen(5));
        checks.holds("the same day of the next week", x.isOpen(8));
    }

    /** "The rolled day of a day is the first open day that is not earlier." */
    private static void firstOpenDayThatIsNotEarlier() {
        Resetline x = new Resetline();
        checks.same("an open day", x.roll(4), 4);
        checks.same("the last day of a week but one", x.roll(5), 7);
        checks.same("the last day of a week", x.roll(6), 7);
        checks.same("the first day of a week", x.roll(7), 7);
        x.holiday(0, 4);
        checks.same("a holiday ahead of closed days", x.roll(4), 7);
        checks.same("the day ahead of the holiday", x.roll(3), 3);
        x.holiday(1, 7);
        checks.same("holidays of both towns round closed days", x.roll(4), 8);
        x.holiday(0, 9);
        checks.same("not the last of several closed days", x.roll(7), 8);
        checks.same("a single holiday", x.roll(9), 10);
    }

    /** "the rate for a day is the fixing of the greatest day that is not later". */
    private static void fixingOfTheGreatestDayThatIsNotLater() {
        Resetline x = new Resetline();
        x.fix(20, 200);
        x.fix(10, 900);
        checks.same("the day itself", x.rateFor(10), 900);
        checks.same("a day ahead of the next", x.rateFor(19), 900);
        checks.same("the greatest day, entered first", x.rateFor(20), 200);
        checks.same("behind it", x.rateFor(21), 200);
        x.fix(3000, -500);
        checks.same("a day ahead of the last", x.rateFor(2999), 200);
        checks.same("the last day itself", x.rateFor(3000), -500);
        x.fix(21, 0);
        checks.same("a fixing of 0 counts", x.rateFor(21), 0);
        checks.same("and stays", x.rateFor(2999), 0);
        checks.same("the day ahead of it", x.rateFor(20), 200);
    }

    /** "and 0 if there is none." */
    private static void rate0IfThereIsNone() {
        Resetline x = new Resetline();
        checks.same("no fixing, day 0", x.rateFor(0), 0);
        checks.same("no fixing, day 3000", x.rateFor(3000), 0);
        x.fix(3000, 500);
        checks.same("only a later one", x.rateFor(2999), 0);
        x.fix(1, 300);
        checks.same("only later ones", x.rateFor(0), 0);
    }

    /** "Trades are numbered from 0, up to 10." */
    private static void tradesAreNumberedFrom0UpTo10() {
        Resetline x = new Resetline();
        for (int i = 0; i < 10; i++) {
            checks.same("number", x.trade(i % 4, 1 + i, true, 0, i, 5, 1), i);
        }
        for (int i = 0; i < 10; i++) {
            checks.same("lots of trade " + i, x.lots(i, 0), 1 + i);
        }
        checks.outOfBounds("trade 10", () -> x.lots(10, 0));
    }

    /** "a number of periods, from 0 on". */
    private static void periodsAreNumberedFrom0On() {
        Resetline x = new Resetline();
        x.trade(0, 1, true, 0, 0, 7, 1);
        x.trade(0, 1, true, 0, 0, 7, 10);
        checks.same("start of the only period", x.start(0, 0), 0);
        checks.same("end of the only period", x.end(0, 0), 7);
        checks.outOfBounds("a period behind the only one", () -> x.end(0, 1));
        checks.outOfBounds("a period ahead of the first", () -> x.end(0, -1));
        for (int period = 0; period < 10; period++) {
            checks.same("start " + period, x.start(1, period), 7 * period);
            checks.same("end " + period, x.end(1, period), 7 * period + 7);
        }
        checks.outOfBounds("period 10", () -> x.start(1, 10));
    }

    /** "The bare start of the period k is the first day and k times the length": not of the rolled first day. */
    private static void bareStartIsCountedFromTheFirstDay() {
        Resetline x = new Resetline();
        x.trade(0, 1, true, 0, 5, 5, 4);
        checks.same("start 0, of the bare day 5", x.start(0, 0), 7);
        checks.same("start 1, of the bare day 10", x.start(0, 1), 10);
        checks.same("start 2, of the bare day 15", x.start(0, 2), 15);
        checks.same("start 3, of the bare day 20", x.start(0, 3), 21);
        checks.same("end 3, of the bare day 25", x.end(0, 3), 25);
        x.trade(0, 1, true, 0, 1000, 180, 10);
        checks.same("the latest start, of the bare day 2620", x.start(1, 9), 2620);
        checks.same("the latest end, of the bare day 2800", x.end(1, 9), 2800);
    }

    /** "its bare end the bare start of the next period": of the last one too, that has no next one. */
    private static void bareEndIsTheBareStartOfTheNextPeriod() {
        Resetline x = new Resetline();
        x.trade(0, 1, true, 0, 2, 6, 10);
        for (int period = 0; period < 9; period++) {
            checks.same("end " + period, x.end(0, period), x.start(0, period + 1));
        }
        // The bare end of the last period is the day 62, whose remainder is 6.
        checks.same("end of the last period", x.end(0, 9), 63);
    }

    /** "Its days are its end less its start with the day count 0": down to 0 days. */
    private static void daysAreTheEndLessTheStart() {
        Resetline x = officeWithAPeriodOf0Days(0, Resetline.SIMPLE);
        checks.same("start and end are one day", x.end(0, 0) - x.start(0, 0), 0);
        checks.same("no floating interest", x.floating(0, 0), 0);
        checks.same("no flow", x.flow(0, 0), 0);
        checks.same("days from the rolled start to the end", x.floating(0, 1), 120 * 7);
        checks.same("with fixed interest of as many", x.flow(0, 1), 3 * (120 - 50) * 7);
        Resetline y = officeWithAPeriodOf0Days(0, Resetline.SPREAD_IN);
        checks.same("nothing is compounded in 0 days", y.floating(0, 0), 0);
        checks.same("and nothing behind them is changed", y.floating(0, 1), 840);
        Resetline z = officeWithAPeriodOf0Days(0, Resetline.SPREAD_BESIDE);
        checks.same("nothing is beside it", z.floating(0, 0), 0);
    }

    /** "and the length with the day count 1", however the days are rolled. */
    private static void daysAreTheLengthWithDayCount1() {
        Resetline x = officeWithAPeriodOf0Days(1, Resetline.SIMPLE);
        checks.same("start and end are one day", x.end(0, 0) - x.start(0, 0), 0);
        checks.same("interest of the length", x.floating(0, 0), 120 * 5);
        checks.same("flow of the length", x.flow(0, 0), 3 * (120 - 50) * 5);
        checks.same("interest of the length again", x.floating(0, 1), 120 * 5);
    }

    /** The bare days 0, 5 and 10 are rolled to 7, 7 and 14: the days 0 to 4, 10 and 11 are holidays. */
    private static Resetline officeWithAPeriodOf0Days(int dayCount, int compounding) {
        Resetline x = new Resetline();
        for (int day = 0; day < 5; day++) {
            x.holiday(day % 2, day);
        }
        for (int day = 10; day < 12; day++) {
            x.holiday(day % 2, day);
        }
        x.fix(0, 100);
        x.trade(0, 3, true, 50, 0, 5, 2);
        x.setTerms(0, 20, dayCount, compounding);
        return x;
    }

    /** "less those of all breaks of the trade with a day that is not later than the start of the period." */
    private static void breaksNotLaterThanTheStart() {
        Resetline x = new Resetline();
        x.trade(0, 100, true, 0, 5, 5, 2);
        x.trade(0, 100, true, 0, 5, 5, 2);
        x.breakPart(0, 8, 1);
        checks.same("a break for the day behind the start", x.lots(0, 0), 100);
        x.breakPart(0, 7, 2);
        checks.same("a break for the start", x.lots(0, 0), 98);
        x.breakPart(0, 6, 4);
        checks.same("a break for a day from the bare start to the start", x.lots(0, 0), 94);
        x.breakPart(0, 0, 8);
        checks.same("a break for day 0", x.lots(0, 0), 86);
        checks.same("all of them count for a later start", x.lots(0, 1), 85);
        x.breakPart(0, 3000, 85);
        checks.same("a break for the last day", x.lots(0, 1), 85);
        checks.same("of the trade alone", x.lots(1, 0), 100);
        x.breakPart(1, 0, 100);
        checks.same("all lots are broken", x.lots(1, 0), 0);
        x.holiday(0, 7);
        checks.same("the start is rolled behind the break of day 8", x.lots(0, 0), 85);
    }

    /** "The rest of a trade are its lots less those of all its breaks": of later days and of days behind it too. */
    private static void restCountsAllBreaks() {
        Resetline x = new Resetline();
        x.trade(0, 10, true, 0, 0, 5, 1);
        x.breakPart(0, 3000, 6);
        checks.same("no lots of the period are broken", x.lots(0, 0), 10);
        checks.badState("5 of the rest of 4", () -> x.breakPart(0, 0, 5));
        checks.same("4 of the rest of 4", x.breakPart(0, 0, 4), 2);
        checks.same("lots of the period", x.lots(0, 0), 6);
        checks.badState("1 of no rest", () -> x.breakPart(0, 0, 1));
    }

    // ---- terms of interest

    /** "Fixed interest of a period is the fixed rate times its days, for each lot." */
    private static void fixedInterestIsTheRateTimesTheDays() {
        int[] rates = {-500, -1, 0, 1, 2000};
        Resetline x = new Resetline();
        for (int i = 0; i < rates.length; i++) {
            x.trade(0, 2, false, rates[i], 0, 5, 1);
            checks.same("fixed rate " + rates[i] + " of 7 days", x.flow(i, 0), 2 * 7 * rates[i]);
            x.setTerms(i, 0, 1, Resetline.SIMPLE);
            checks.same("fixed rate " + rates[i] + " of 5 days", x.flow(i, 0), 2 * 5 * rates[i]);
        }
    }

    /** "with the rate r for its start": the rolled one, and not a day later. */
    private static void rateIsThatOfTheStart() {
        for (int way = Resetline.SIMPLE; way <= Resetline.SPREAD_BESIDE; way++) {
            Resetline x = new Resetline();
            x.trade(0, 1, true, 0, 5, 5, 1);
            x.setTerms(0, 0, 1, way);
            x.fix(8, 900);
            checks.same("only a fixing behind the start", x.floating(0, 0), 0);
            x.fix(5, 10);
            checks.same("a fixing for the bare start", x.floating(0, 0), 50);
            x.fix(7, 20);
            checks.same("a fixing for the start", x.floating(0, 0), 100);
            x.holiday(0, 7);
            checks.same("the start is rolled to the next fixing", x.floating(0, 0), 4500);
        }
    }

    /** "without compounding (0): r and the spread, together, times its days". */
    private static void simpleInterest() {
        Resetline x = new Resetline();
        x.fix(0, -500);
        x.trade(0, 1, true, 0, 0, 180, 10);
        x.setTerms(0, -500, 1, Resetline.SIMPLE);
        checks.same("the least rate and spread", x.floating(0, 9), -180000);
        x.setTerms(0, 500, 1, Resetline.SIMPLE);
        checks.same("rate and spread are 0 together", x.floating(0, 9), 0);
        x.fix(0, 2000);
        checks.same("the greatest rate and spread, not compounded", x.floating(0, 9), 450000);
    }

    /** "with c as what was compounded, 0 ahead of the period 0". */
    private static void nothingIsCompoundedAheadOfPeriod0() {
        Resetline x = new Resetline();
        x.fix(0, 2000);
        x.trade(0, 1, true, 0, 360, 180, 2);
        x.setTerms(0, 500, 1, Resetline.SPREAD_IN);
        checks.same("period 0, spread in it", x.floating(0, 0), 450000);
        checks.same("asked twice", x.floating(0, 0), 450000);
        checks.same("period 1, spread in it", x.floating(0, 1), 450000 + 450000 / 8);
        checks.same("period 0 behind period 1", x.floating(0, 0), 450000);
        x.setTerms(0, 500, 1, Resetline.SPREAD_BESIDE);
        checks.same("period 0, spread beside it", x.floating(0, 0), 360000 + 90000);
    }

    /** "floor((3600000 + c) * (r + spread) * days / 3600000); c grows by that". */
    private static void compoundedWithTheSpreadInIt() {
        Resetline x = new Resetline();
        x.fix(0, 2000);
        x.trade(0, 1, true, 0, 0, 180, 10);
        x.setTerms(0, 500, 1, Resetline.SPREAD_IN);
        // Each period grows what there is by an eighth: 450000, 506250, 569531.25, ..
        long[] due = {450000, 506250, 569531, 640722, 720812, 810914, 912278, 1026313, 1154602, 1298927};
        for (int period = 0; period < 10; period++) {
            checks.same("the greatest growth, period " + period, x.floating(0, period), due[period]);
        }
        Resetline y = new Resetline();
        y.fix(0, 500);
        y.trade(0, 1, true, 0, 0, 180, 2);
        y.setTerms(0, -500, 1, Resetline.SPREAD_IN);
        checks.same("rate and spread are 0 together", y.floating(0, 1), 0);
    }

    /** ".. by which c grows, and besides the spread times the days, by which it does not." */
    private static void compoundedWithTheSpreadBesideIt() {
        Resetline x = new Resetline();
        x.trade(0, 1, true, 0, 0, 180, 3);
        x.setTerms(0, 500, 1, Resetline.SPREAD_BESIDE);
        checks.same("the rate 0, period 0", x.floating(0, 0), 90000);
        checks.same("the rate 0, period 2", x.floating(0, 2), 90000);
        x.fix(0, 2000);
        // A tenth: 360000, then of 3960000, then of 4356000.
        checks.same("the spread 500, period 1", x.floating(0, 1), 396000 + 90000);
        checks.same("the spread 500, period 2", x.floating(0, 2), 435600 + 90000);
        x.setTerms(0, -500, 1, Resetline.SPREAD_BESIDE);
        checks.same("the spread -500, period 1", x.floating(0, 1), 396000 - 90000);
        checks.same("the spread -500, period 2", x.floating(0, 2), 435600 - 90000);
    }

    /** "Here floor means rounded down, also below 0." */
    private static void roundedDownAlsoBelow0() {
        Resetline x = new Resetline();
        x.fix(0, -1);
        x.fix(7, 1);
        x.trade(0, 1, true, 0, 0, 7, 2);
        x.setTerms(0, 0, 0, Resetline.SPREAD_IN);
        // (3600000 - 7) * 7 / 3600000 is 6.99..
        checks.same("whole, below 0", x.floating(0, 0), -7);
        checks.same("above 0", x.floating(0, 1), 6);
        x.fix(7, -1);
        // (3600000 - 7) * -7 / 3600000 is -6.99..
        checks.same("below 0", x.floating(0, 1), -7);
        x.fix(0, 1);
        // (3600000 + 7) * -7 / 3600000 is -7.00..
        checks.same("a little below a whole number", x.floating(0, 1), -8);
        x.setTerms(0, 2, 0, Resetline.SPREAD_BESIDE);
        checks.same("below 0, then the spread beside it", x.floating(0, 1), -8 + 14);
        x.fix(7, 1);
        checks.same("a little above a whole number", x.floating(0, 1), 7 + 14);
    }

    /** "c grows by that": by less than 0 too. */
    private static void lessThanNothingIsCompounded() {
        Resetline x = new Resetline();
        x.fix(0, -500);
        x.trade(0, 1, true, 0, 0, 180, 10);
        x.setTerms(0, -500, 1, Resetline.SPREAD_IN);
        // Each period takes a twentieth of what there is, rounded away from 0: 180000, 171000, 162450, 154327.5, ..
        long[] due = {-180000, -171000, -162450, -154328, -146612, -139281, -132317, -125701, -119416, -113445};
        for (int period = 0; period < 10; period++) {
            checks.same("the least growth, period " + period, x.floating(0, period), due[period]);
        }
    }

    /** "floating less fixed if it pays the fixed rate, otherwise fixed less floating." */
    private static void flowIsCountedForTheOffice() {
        Resetline x = new Resetline();
        x.fix(0, 100);
        x.trade(0, 3, true, 100, 0, 7, 1);
        x.trade(0, 3, true, 99, 0, 7, 1);
        x.trade(0, 3, true, 101, 0, 7, 1);
        x.trade(0, 3, false, 99, 0, 7, 1);
        x.trade(0, 3, false, 101, 0, 7, 1);
        checks.same("both alike", x.flow(0, 0), 0);
        checks.same("pays less than it gets", x.flow(1, 0), 21);
        checks.same("pays more than it gets", x.flow(2, 0), -21);
        checks.same("gets less than it pays", x.flow(3, 0), -21);
        checks.same("gets more than it pays", x.flow(4, 0), 21);
    }

    /** "its lots times the difference": 0 without lots. */
    private static void flowOf0Lots() {
        Resetline x = new Resetline();
        x.fix(0, 100);
        x.trade(0, 1, true, 0, 0, 7, 2);
        x.breakPart(0, 7, 1);
        checks.same("the last lot", x.flow(0, 0), 700);
        checks.same("no lot", x.flow(0, 1), 0);
        checks.same("floating interest for a lot, of none", x.floating(0, 1), 700);
    }

    // ---- terms of parties and pressing

    /** "the latest handover with a day that is not later". */
    private static void handoverWithADayThatIsNotLater() {
        Resetline x = new Resetline();
        x.trade(0, 1, true, 0, 0, 5, 1);
        x.handOver(0, 50, 1);
        x.handOver(0, 20, 2);
        checks.same("the day ahead of the first", x.partyOn(0, 19), 0);
        checks.same("the day of the first", x.partyOn(0, 20), 2);
        checks.same("the day ahead of the second", x.partyOn(0, 49), 2);
        checks.same("the day of the second, entered earlier", x.partyOn(0, 50), 1);
        x.handOver(0, 3000, 3);
        checks.same("the day ahead of the last day", x.partyOn(0, 2999), 1);
        checks.same("the last day", x.partyOn(0, 3000), 3);
    }

    /** "(of several for one day the one that was entered last)". */
    private static void handoverThatWasEnteredLast() {
        Resetline x = new Resetline();
        x.trade(0, 1, true, 0, 0, 5, 1);
        x.handOver(0, 7, 3);
        x.handOver(0, 7, 1);
        x.handOver(0, 6, 2);
        checks.same("two for one day", x.partyOn(0, 7), 1);
        x.handOver(0, 7, 0);
        checks.same("three for one day", x.partyOn(0, 7), 0);
        checks.same("on days behind it", x.partyOn(0, 3000), 0);
        checks.same("on the day ahead of it", x.partyOn(0, 6), 2);
    }

    /** "or else the party with which it was made." */
    private static void orElseThePartyOfTheMaking() {
        Resetline x = new Resetline();
        x.trade(3, 1, true, 0, 1000, 5, 1);
        checks.same("never handed over, day 0", x.partyOn(0, 0), 3);
        checks.same("never handed over, day 3000", x.partyOn(0, 3000), 3);
        x.handOver(0, 1, 2);
        checks.same("handed over later", x.partyOn(0, 0), 3);
    }

    /** "of all trades that are of that party then." */
    private static void cashIsThatOfThePartyOnThatDay() {
        Resetline x = new Resetline();
        x.trade(0, 1, true, 100, 0, 7, 1);
        x.handOver(0, 8, 1);
        checks.same("handed over behind the pay day", x.cash(0, 7), -700);
        checks.same("not yet of the new party", x.cash(1, 7), 0);
        x.handOver(0, 7, 2);
        checks.same("handed over on the pay day", x.cash(2, 7), -700);
        checks.same("no more of the old party", x.cash(0, 7), 0);
        x.handOver(0, 6, 3);
        checks.same("handed over ahead of the pay day and on it", x.cash(2, 7), -700);
        checks.same("not of the party of the day ahead", x.cash(3, 7), 0);
    }

    /** "the sum of the flows that are paid on that day": of several trades, and of several periods of one. */
    private static void cashIsTheSumOfTheFlowsOfThatDay() {
        Resetline x = new Resetline();
        checks.same("no trades", x.cash(0, 7), 0);
        for (int day = 7; day < 12; day++) {
            x.holiday(1, day);
        }
        x.trade(0, 1, true, 100, 0, 5, 3);
        x.trade(0, 10, true, 1, 0, 14, 1);
        x.setTerms(0, 0, 1, Resetline.SIMPLE);
        checks.same("periods 0 and 1 of trade 0, and trade 1", x.cash(0, 14), -500 - 500 - 140);
        checks.same("the day ahead", x.cash(0, 13), 0);
        checks.same("the day behind: period 2 of trade 0", x.cash(0, 15), -500);
    }

    /** "Two trades fit if they have the same fixed rate, spread, .. and opposite sides." */
    private static void fitByEachTermAndOppositeSides() {
        checks.same("all alike, opposite sides", pressedWith(false, 100, 7, 14, 2, 5, 1, 1), 1);
        checks.same("the same side", pressedWith(true, 100, 7, 14, 2, 5, 1, 1), 0);
        checks.same("fixed rate + 1", pressedWith(false, 101, 7, 14, 2, 5, 1, 1), 0);
        checks.same("fixed rate - 1", pressedWith(false, 99, 7, 14, 2, 5, 1, 1), 0);
        checks.same("first day that is rolled to the same", pressedWith(false, 100, 6, 14, 2, 5, 1, 1), 0);
        checks.same("first day + 1", pressedWith(false, 100, 8, 14, 2, 5, 1, 1), 0);
        checks.same("length - 1", pressedWith(false, 100, 7, 13, 2, 5, 1, 1), 0);
        checks.same("length + 1", pressedWith(false, 100, 7, 15, 2, 5, 1, 1), 0);
        checks.same("periods - 1", pressedWith(false, 100, 7, 14, 1, 5, 1, 1), 0);
        checks.same("periods + 1", pressedWith(false, 100, 7, 14, 3, 5, 1, 1), 0);
        checks.same("spread - 1", pressedWith(false, 100, 7, 14, 2, 4, 1, 1), 0);
        checks.same("spread of the other sign", pressedWith(false, 100, 7, 14, 2, -5, 1, 1), 0);
        checks.same("day count", pressedWith(false, 100, 7, 14, 2, 5, 0, 1), 0);
        checks.same("compounding 0", pressedWith(false, 100, 7, 14, 2, 5, 1, 0), 0);
        checks.same("compounding 2", pressedWith(false, 100, 7, 14, 2, 5, 1, 2), 0);
    }

    /** Lots may differ, so may the party with which a trade was made. */
    private static int pressedWith(boolean paysFixed, int fixed, int first, int length, int periods, int spread,
            int dayCount, int way) {
        Resetline x = new Resetline();
        x.trade(3, 5, true, 100, 7, 14, 2);
        x.setTerms(0, 5, 1, Resetline.SPREAD_IN);
        x.trade(2, 1, paysFixed, fixed, first, length, periods);
        x.setTerms(1, spread, dayCount, way);
        x.handOver(1, 0, 3);
        int pressed = x.press(7);
        Resetline y = new Resetline();
        y.trade(2, 1, paysFixed, fixed, first, length, periods);
        y.setTerms(0, spread, dayCount, way);
        y.handOver(0, 0, 3);
        y.trade(3, 5, true, 100, 7, 14, 2);
        y.setTerms(1, 5, 1, Resetline.SPREAD_IN);
        checks.same("the other way round", y.press(7), pressed);
        return pressed;
    }

    /** "the first one by rising numbers, and for each the second one with greater numbers by rising ones". */
    private static void pressedByRisingNumbers() {
        Resetline x = new Resetline();
        x.trade(0, 5, true, 0, 0, 7, 1);
        x.trade(0, 3, false, 0, 0, 7, 1);
        x.trade(0, 4, false, 0, 0, 7, 1);
        checks.same("one with two", x.press(0), 5);
        checks.same("the lesser number goes first", x.lots(1, 0), 0);
        checks.same("the greater one gets what is left", x.lots(2, 0), 2);
        Resetline y = new Resetline();
        y.trade(0, 3, true, 0, 0, 7, 1);
        y.trade(0, 4, true, 0, 0, 7, 1);
        y.trade(0, 5, false, 0, 0, 7, 1);
        checks.same("two with one", y.press(0), 5);
        checks.same("the lesser first one goes first", y.lots(0, 0), 0);
        checks.same("the greater first one gets what is left", y.lots(1, 0), 2);
        Resetline z = new Resetline();
        z.trade(0, 3, true, 0, 0, 7, 1);
        checks.same("no pair", z.press(0), 0);
        checks.same("a trade is no pair with itself", z.breakPart(0, 0, 3), 1);
    }

    /** "and have the same party on all days on which flows are paid". */
    private static void samePartyOnAllPayDays() {
        checks.same("a party for the last pay day alone", pressedWithHandovers(21, 1, 3000, 0), 0);
        checks.same("a party behind the last pay day", pressedWithHandovers(22, 1, 3000, 0), 3);
        checks.same("a party for the first pay day alone", pressedWithHandovers(7, 1, 8, 0), 0);
        checks.same("a party for the pay day between alone", pressedWithHandovers(14, 1, 15, 0), 0);
        checks.same("a party between pay days", pressedWithHandovers(15, 1, 21, 0), 3);
        checks.same("a party for a start that is no pay day", pressedWithHandovers(0, 1, 7, 0), 3);
        Resetline x = new Resetline();
        x.trade(0, 1, true, 0, 0, 7, 1);
        x.trade(1, 1, false, 0, 0, 7, 1);
        x.handOver(0, 3, 2);
        x.handOver(1, 7, 2);
        checks.same("the same party by other ways", x.press(0), 1);
    }

    /** Two trades of party 0 with the pay days 7, 14 and 21, the second one twice handed over. */
    private static int pressedWithHandovers(int day, int party, int secondDay, int secondParty) {
        Resetline x = new Resetline();
        x.trade(0, 3, true, 0, 0, 7, 3);
        x.trade(0, 3, false, 0, 0, 7, 3);
        x.handOver(1, day, party);
        x.handOver(1, secondDay, secondParty);
        return x.press(0);
    }

    /** "of periods that start on that day or later". */
    private static void periodsThatStartOnThatDayOrLater() {
        // Only the flow of the period 0, paid on day 7, is of another party.
        checks.same("the period 0 starts on that day", pressedFor(0), 0);
        checks.same("the period 0 starts on the day ahead", pressedFor(1), 3);
        checks.same("the period 1 starts on that day", pressedFor(7), 3);
        Resetline x = new Resetline();
        x.trade(0, 4, true, 0, 5, 5, 2);
        x.trade(0, 4, false, 0, 5, 5, 2);
        x.handOver(0, 10, 1);
        x.handOver(0, 11, 0);
        checks.same("the rolled start counts, not the bare one", x.press(7), 0);
        checks.same("the next start", x.press(8), 4);
        checks.same("no lots of the earlier period are broken", x.lots(0, 0), 4);
        checks.same("the lots of the later period are broken", x.lots(0, 1), 0);
    }

    private static int pressedFor(int day) {
        Resetline x = new Resetline();
        x.trade(0, 3, true, 0, 0, 7, 2);
        x.trade(0, 3, false, 0, 0, 7, 2);
        x.handOver(0, 7, 1);
        x.handOver(0, 8, 0);
        return x.press(day);
    }

    /** "and there are such periods". */
    private static void suchPeriodsAreNeeded() {
        Resetline x = new Resetline();
        x.trade(0, 3, true, 0, 5, 5, 2);
        x.trade(0, 3, false, 0, 5, 5, 2);
        checks.same("for the last day", x.press(3000), 0);
        checks.same("for the day behind the last start", x.press(11), 0);
        checks.same("no break of it", x.breakPart(0, 0, 1), 1);
        checks.same("for the last start", x.press(10), 2);
        Resetline y = new Resetline();
        y.trade(0, 3, true, 0, 5, 5, 1);
        y.trade(0, 3, false, 0, 5, 5, 1);
        checks.same("for the day behind the only start", y.press(8), 0);
        checks.same("for the only start, behind the bare one", y.press(7), 3);
    }

    /** "both get a break of n lots for that day, where n is the lesser rest of both, if it is above 0." */
    private static void lesserRestIfAbove0() {
        Resetline x = new Resetline();
        x.trade(0, 3, true, 0, 0, 7, 2);
        x.trade(0, 1000, false, 0, 0, 7, 2);
        x.breakPart(0, 3000, 3);
        checks.same("a rest of 0, by a break for a later day", x.press(0), 0);
        x.setTerms(1, 0, 0, Resetline.SIMPLE);
        checks.same("no break of the other", x.breakPart(1, 0, 999), 1);
        checks.same("no lots of it are broken", x.lots(0, 1), 3);
        x.trade(0, 2, true, 0, 0, 7, 2);
        checks.same("the lesser rest is 1", x.press(7), 1);
        checks.same("for that day, not for an earlier one", x.lots(2, 0), 2);
        checks.same("for that day", x.lots(2, 1), 1);
        checks.same("of both", x.lots(1, 1), 0);
        checks.same("the breaks of the first one", x.breakPart(2, 0, 1), 2);
        checks.badState("nothing is left of the other", () -> x.breakPart(1, 0, 1));
        checks.same("nothing is left to press", x.press(7), 0);
        Resetline y = new Resetline();
        y.trade(0, 1000, true, 0, 0, 7, 2);
        y.trade(0, 1000, false, 0, 0, 7, 2);
        checks.same("equal rests, the greatest", y.press(0), 1000);
    }

    /** "(The breaks of a pair count for the next pairs.)" */
    private static void breaksOfAPairCountForTheNextPairs() {
        Resetline x = new Resetline();
        for (int i = 0; i < 10; i++) {
            x.trade(0, 1 + i, i % 2 == 0, 0, 0, 7, 1);
        }
        // The even ones have 25 lots and the odd ones 30; each lot of the even ones finds one of the odd ones.
        checks.same("no more than the lesser side has", x.press(0), 25);
        int left = 0;
        for (int i = 0; i < 10; i++) {
            checks.holds("lots of " + i + " are not below 0", x.lots(i, 0) >= 0);
            left += x.lots(i, 0);
        }
        checks.same("what is left", left, 5);
        checks.same("it is left of the last one", x.lots(9, 0), 5);
        checks.same("the breaks of the last one", x.breakPart(9, 0, 5), 2);
        checks.same("a second press finds nothing", x.press(0), 0);
    }

    /** "equal and opposite ones are pressed together without changing any day's cash." */
    private static void pressingChangesNoDaysCash() {
        for (int day : new int[] {0, 6, 7, 13, 14, 20, 21}) {
            Resetline x = officeToPress();
            Resetline y = officeToPress();
            checks.same("something is pressed for " + day, y.press(day) > 0 ? 1 : 0, day > 14 ? 0 : 1);
            for (int payDay = 0; payDay <= 30; payDay++) {
                for (int party = 0; party < 4; party++) {
                    checks.same("cash of day " + payDay, y.cash(party, payDay), x.cash(party, payDay));
                }
            }
        }
    }

    private static Resetline officeToPress() {
        Resetline x = new Resetline();
        x.fix(0, 333);
        x.fix(7, -77);
        x.holiday(0, 7);
        x.trade(0, 9, true, 120, 0, 7, 3);
        x.trade(1, 4, false, 120, 0, 7, 3);
        x.setTerms(0, 15, 0, Resetline.SPREAD_IN);
        x.setTerms(1, 15, 0, Resetline.SPREAD_IN);
        x.handOver(0, 5, 1);
        x.handOver(0, 21, 2);
        x.handOver(1, 21, 2);
        return x;
    }

    /** "NONE = -1: None." and "SIMPLE = 0, SPREAD_IN = 1, SPREAD_BESIDE = 2". */
    private static void noneIsMinus1() {
        checks.same("NONE", new Resetline().nextFlow(0, 0), -1);
        Resetline x = new Resetline();
        x.fix(0, 2000);
        x.trade(0, 1, true, 0, 0, 180, 2);
        x.setTerms(0, 500, 1, 0);
        checks.same("0 is SIMPLE", x.floating(0, 1), 450000);
        x.setTerms(0, 500, 1, 1);
        checks.same("1 is SPREAD_IN", x.floating(0, 1), 506250);
        x.setTerms(0, 500, 1, 2);
        checks.same("2 is SPREAD_BESIDE", x.floating(0, 1), 396000 + 90000);
    }

    // ---- promises of calendars and fixings

    /** "Creates an office without holidays, fixings and trades." */
    private static void newOfficeIsEmpty() {
        Resetline filled = new Resetline();
        filled.holiday(0, 1);
        filled.fix(0, 100);
        filled.trade(0, 1, true, 0, 0, 5, 1);
        Resetline x = new Resetline();
        checks.same("no trades", x.trades(), 0);
        checks.holds("no holidays", x.isOpen(1));
        checks.same("no fixings", x.rateFor(3000), 0);
        checks.same("no lots to press", x.press(0), 0);
        checks.same("no cash by days", x.cashOfDays(0, 0, 400), 0);
        checks.same("no cash by trades", x.cashByTrades(0, 0, 400), 0);
        checks.same("no flow", x.nextFlow(0, 0), Resetline.NONE);
        checks.same("the first holiday of town 0", x.holiday(0, 1), 1);
        checks.same("the first holiday of town 1", x.holiday(1, 1), 1);
        checks.same("the first fixing", x.fix(0, 5), 1);
        checks.same("the first trade", x.trade(0, 1, true, 0, 0, 5, 1), 0);
        checks.same("the first break", x.breakPart(0, 0, 1), 1);
    }

    /** "Returns how many holidays the town has then." */
    private static void holidaysOfTheTownThen() {
        Resetline x = new Resetline();
        for (int i = 1; i <= 20; i++) {
            checks.same("holiday " + i + " of town 1", x.holiday(1, 150 * i), i);
        }
        for (int i = 1; i <= 20; i++) {
            checks.same("holiday " + i + " of town 0", x.holiday(0, 150 * i), i);
        }
    }

    /** "if the town has this holiday". */
    private static void townHasThisHoliday() {
        Resetline x = new Resetline();
        x.holiday(0, 0);
        checks.badState("day 0 again", () -> x.holiday(0, 0));
        checks.same("day 0 of the other town", x.holiday(1, 0), 1);
        checks.badState("day 0 of the other town again", () -> x.holiday(1, 0));
        x.holiday(0, 3000);
        x.holiday(0, 1500);
        checks.badState("day 3000 again", () -> x.holiday(0, 3000));
        checks.badState("the one entered last again", () -> x.holiday(0, 1500));
        checks.same("a day between", x.holiday(0, 1499), 4);
    }

    /** "or 20 holidays". */
    private static void townHas20Holidays() {
        for (int town = 0; town <= 1; town++) {
            int full = town;
            Resetline x = new Resetline();
            for (int i = 0; i < 19; i++) {
                x.holiday(full, 7 * i);
            }
            checks.same("the 20th of town " + town, x.holiday(full, 700), 20);
            checks.badState("the 21st of town " + town, () -> x.holiday(full, 707));
            checks.holds("it is not kept", x.isOpen(707));
            checks.same("the first of the other town", x.holiday(1 - full, 707), 1);
            checks.holds("that is kept", !x.isOpen(707));
        }
    }

    /** "Returns the day; it may be beyond 3000." */
    private static void rolledBeyond3000() {
        Resetline x = new Resetline();
        checks.same("roll 3000, open", x.roll(3000), 3000);
        checks.same("roll 2995", x.roll(2995), 2996);
        x.holiday(0, 3000);
        checks.same("roll 3000, closed", x.roll(3000), 3003);
        for (int day = 2996; day < 3000; day++) {
            x.holiday(1, day);
        }
        checks.same("roll 2994 over a week", x.roll(2994), 3003);
        checks.same("roll 2993", x.roll(2993), 3003 - 10);
        Resetline y = new Resetline();
        for (int i = 0; i < 40; i++) {
            y.holiday(i % 2, i / 5 * 7 + i % 5);
        }
        checks.same("roll 0 over all holidays that there can be", y.roll(0), 56);
    }

    /** "Enters a fixing; one for the same day is replaced." */
    private static void fixingForTheSameDayIsReplaced() {
        Resetline x = new Resetline();
        x.fix(0, 1);
        x.fix(3000, 3);
        x.fix(10, 2);
        checks.same("day 0 again", x.fix(0, -500), 3);
        checks.same("day 3000 again", x.fix(3000, 2000), 3);
        checks.same("day 10 with the same rate again", x.fix(10, 2), 3);
        checks.same("rate for 0", x.rateFor(0), -500);
        checks.same("rate for 10", x.rateFor(10), 2);
        checks.same("rate for 3000", x.rateFor(3000), 2000);
        checks.same("day 10 with the rate 0", x.fix(10, 0), 3);
        checks.same("0 for it", x.rateFor(2999), 0);
    }

    /** "if there are 60 fixings, and none for this day". */
    private static void noMoreThan60Fixings() {
        Resetline x = new Resetline();
        for (int i = 1; i <= 59; i++) {
            checks.same("fixing " + i, x.fix(50 * i, i), i);
        }
        checks.same("the 59 are not full", x.fix(50, 7), 59);
        checks.same("fixing 60", x.fix(3000, 60), 60);
        checks.badState("fixing 61", () -> x.fix(1, 61));
        checks.badState("fixing 61 for day 0", () -> x.fix(0, 61));
        checks.same("it is not kept", x.rateFor(1), 0);
        checks.same("the first is replaced", x.fix(50, 500), 60);
        checks.same("the last is replaced", x.fix(3000, 600), 60);
        checks.same("rate of the first", x.rateFor(99), 500);
        checks.same("rate of the last", x.rateFor(3000), 600);
    }

    // ---- promises of trades

    /** "Makes a trade with the day count 0, without compounding, with the spread 0." */
    private static void madeWithoutTerms() {
        Resetline x = new Resetline();
        x.fix(0, 2000);
        x.trade(0, 1, true, 0, 0, 5, 10);
        x.setTerms(0, 500, 1, Resetline.SPREAD_IN);
        x.trade(0, 1, true, 0, 0, 5, 10);
        checks.same("7 days, no spread", x.floating(1, 0), 14000);
        checks.same("3 days, not compounded", x.floating(1, 1), 6000);
    }

    /** "if there are 10 trades". */
    private static void noMoreThan10Trades() {
        Resetline x = new Resetline();
        for (int i = 0; i < 10; i++) {
            checks.same("trade", x.trade(0, 1, true, 0, 0, 5, 1), i);
        }
        checks.badState("trade 11", () -> x.trade(1, 1, true, 0, 0, 5, 1));
        x.breakPart(9, 0, 1);
        checks.badState("a trade without a rest stays", () -> x.trade(1, 1, true, 0, 0, 5, 1));
        checks.same("trades", x.trades(), 10);
        checks.same("the refused one has no flow", x.nextFlow(1, 0), Resetline.NONE);
    }

    /** "if the trade has a break": by breakPart or by press, for whatever day, but not for one that was refused. */
    private static void noTermsOfATradeWithABreak() {
        Resetline x = new Resetline();
        x.trade(0, 2, true, 0, 0, 5, 2);
        x.trade(0, 1, false, 0, 0, 5, 2);
        x.trade(0, 9, true, 0, 0, 5, 2);
        checks.badState("a break of too much", () -> x.breakPart(0, 0, 3));
        x.setTerms(0, 0, 1, Resetline.SIMPLE);
        checks.same("a press of nothing", x.press(0), 1);
        checks.badState("pressed with the trade 2", () -> x.setTerms(1, 0, 0, 0));
        checks.badState("pressed with the trade 1", () -> x.setTerms(2, 0, 0, 0));
        x.setTerms(0, 0, 0, Resetline.SIMPLE);
        x.breakPart(0, 3000, 1);
        checks.badState("a break for the last day", () -> x.setTerms(0, 0, 0, 0));
        Resetline y = new Resetline();
        y.trade(0, 2, true, 0, 0, 5, 2);
        y.handOver(0, 0, 1);
        y.setTerms(0, 1, 0, 0);
        checks.same("a handover is no break", y.floating(0, 0), 7);
    }

    /** "Returns how many breaks the trade has then." */
    private static void howManyBreaksThen() {
        Resetline x = new Resetline();
        x.trade(0, 5, true, 0, 0, 7, 2);
        x.trade(0, 2, false, 0, 0, 7, 2);
        checks.same("the first", x.breakPart(0, 0, 1), 1);
        checks.same("the second, for the same day", x.breakPart(0, 0, 1), 2);
        checks.same("pressed", x.press(7), 2);
        checks.same("a press counts", x.breakPart(0, 3000, 1), 4);
        checks.badState("no rest", () -> x.breakPart(1, 0, 1));
        x.trade(0, 1, true, 0, 0, 7, 2);
        checks.same("the first of another trade", x.breakPart(2, 0, 1), 1);
    }

    /** "if the rest of the trade is less than that". */
    private static void restIsLessThanThat() {
        Resetline x = new Resetline();
        x.trade(0, 1, true, 0, 0, 7, 1);
        x.trade(0, 1000, true, 0, 0, 7, 1);
        x.trade(0, 999, true, 0, 0, 7, 1);
        checks.badState("2 of 1", () -> x.breakPart(0, 0, 2));
        checks.same("1 of 1", x.breakPart(0, 0, 1), 1);
        checks.badState("1 of 0", () -> x.breakPart(0, 0, 1));
        checks.same("1000 of 1000", x.breakPart(1, 0, 1000), 1);
        checks.badState("1000 of 0", () -> x.breakPart(1, 0, 1000));
        checks.badState("1000 of 999", () -> x.breakPart(2, 0, 1000));
        checks.same("998 of 999", x.breakPart(2, 0, 998), 1);
        checks.badState("2 of what is left", () -> x.breakPart(2, 0, 2));
        checks.same("1 of what is left", x.breakPart(2, 0, 1), 2);
    }

    /** "Returns the party of that day before." */
    private static void partyOfThatDayBefore() {
        Resetline x = new Resetline();
        x.trade(3, 1, true, 0, 0, 7, 1);
        checks.same("the one of the making", x.handOver(0, 10, 0), 3);
        checks.same("of the same day", x.handOver(0, 10, 1), 0);
        checks.same("of an earlier day, ahead of all", x.handOver(0, 9, 2), 3);
        checks.same("of a later day", x.handOver(0, 3000, 2), 1);
        checks.same("of day 0", x.handOver(0, 0, 0), 3);
        checks.same("of the same day, to the same party", x.handOver(0, 3000, 2), 2);
    }

    /** "if the trade was handed over 10 times". */
    private static void handedOver10Times() {
        Resetline x = new Resetline();
        x.trade(0, 1, true, 0, 0, 7, 1);
        x.trade(0, 1, true, 0, 0, 7, 1);
        for (int i = 0; i < 9; i++) {
            x.handOver(0, 5, 0);
        }
        checks.same("the 10th", x.handOver(0, 5, 1), 0);
        checks.badState("the 11th", () -> x.handOver(0, 5, 2));
        checks.badState("the 11th for another day", () -> x.handOver(0, 6, 2));
        checks.same("the 10th stays", x.partyOn(0, 6), 1);
        for (int i = 0; i < 10; i++) {
            checks.same("another trade's", x.handOver(1, i, i % 4), i == 0 ? 0 : (i - 1) % 4);
        }
        checks.badState("another trade's 11th", () -> x.handOver(1, 9, 2));
    }

    /** "Returns how many lots are pressed: the sum of n over all pairs." */
    private static void howManyLotsArePressed() {
        Resetline x = new Resetline();
        for (int i = 0; i < 10; i++) {
            x.trade(0, 1000, i < 5, 0, 0, 7, 1);
        }
        checks.same("the most that there can be", x.press(0), 5000);
        checks.same("then none", x.press(0), 0);
        Resetline y = new Resetline();
        y.trade(0, 1, true, 0, 0, 7, 1);
        y.trade(0, 1, false, 0, 0, 7, 1);
        checks.same("the least", y.press(0), 1);
    }

    /** "Returns how many trades there are." */
    private static void howManyTrades() {
        Resetline x = new Resetline();
        checks.same("none", x.trades(), 0);
        checks.badArgument("a refused one", () -> x.trade(0, 0, true, 0, 0, 5, 1));
        checks.same("none is kept", x.trades(), 0);
        for (int i = 1; i <= 10; i++) {
            x.trade(0, 1, true, 0, 0, 5, 1);
            checks.same("trades", x.trades(), i);
        }
    }

    /** "Returns the end of a period, when its flow is paid": the latest that there can be, and the day of its cash. */
    private static void latestEndOfAll() {
        Resetline x = new Resetline();
        x.trade(0, 1, false, 1, 1000, 180, 10);
        checks.same("ahead of the holidays", x.end(0, 9), 2800);
        for (int i = 0; i < 40; i++) {
            x.holiday(i % 2, 2800 + i / 5 * 7 + i % 5);
        }
        checks.same("start", x.start(0, 9), 2620);
        checks.same("end", x.end(0, 9), 2856);
        checks.same("its flow, of 236 days", x.flow(0, 9), 236);
        checks.same("its cash", x.cash(0, 2856), 236);
        checks.same("the day ahead", x.cash(0, 2855), 0);
        checks.same("its day", x.nextFlow(0, 2627), 2856);
        checks.same("its cash by days", x.cashOfDays(0, 2700, 3100), 236);
        checks.same("its cash by trades", x.cashByTrades(0, 2700, 3100), 236);
    }

    // ---- promises of cash

    /** "Returns the cents that the office gets; below 0 if it pays." */
    private static void centsTheOfficePaysAreBelow0() {
        Resetline x = new Resetline();
        x.trade(0, 1000, true, 2000, 0, 180, 1);
        x.trade(0, 1000, false, 2000, 0, 180, 1);
        x.setTerms(0, 0, 1, Resetline.SIMPLE);
        x.setTerms(1, 0, 1, Resetline.SIMPLE);
        checks.same("pays the greatest rate", x.flow(0, 0), -360000000);
        checks.same("gets the greatest rate", x.flow(1, 0), 360000000);
        x.fix(0, -500);
        x.setTerms(0, -500, 1, Resetline.SIMPLE);
        checks.same("pays both sides", x.flow(0, 0), -540000000);
    }

    /** "day: 0 to 3100": any of them has an answer, 0 without a flow. */
    private static void cashOfAnyDay() {
        Resetline x = new Resetline();
        x.trade(0, 1, true, 100, 0, 7, 1);
        checks.same("day 0", x.cash(0, 0), 0);
        checks.same("the pay day", x.cash(0, 7), -700);
        checks.same("day 3001", x.cash(0, 3001), 0);
        checks.same("day 3100", x.cash(0, 3100), 0);
    }

    /** "long cash", "long cashOfDays", "long cashByTrades": sums beyond int do not wrap around. */
    private static void cashIsToldWhole() {
        Resetline x = new Resetline();
        x.fix(0, 2000);
        for (int i = 0; i < 10; i++) {
            x.trade(0, 1000, true, -500, 0, 180, 10);
            x.setTerms(i, 500, 1, Resetline.SPREAD_IN);
        }
        checks.same("the greatest flow", x.flow(0, 9), 1388927000L);
        checks.same("the greatest cash", x.cash(0, 1800), 13889270000L);
        // The periods 8 and 9: 1154602 + 90000 and 1298927 + 90000, for each lot.
        checks.same("by days", x.cashOfDays(0, 1500, 1800), 26335290000L);
        checks.same("by trades", x.cashByTrades(0, 1500, 1800), 26335290000L);
        Resetline y = new Resetline();
        y.fix(0, 2000);
        for (int i = 0; i < 10; i++) {
            y.trade(0, 1000, false, -500, 0, 180, 10);
            y.setTerms(i, 500, 1, Resetline.SPREAD_IN);
        }
        checks.same("the least cash", y.cash(0, 1800), -13889270000L);
        checks.same("the least by days", y.cashOfDays(0, 1500, 1800), -26335290000L);
        checks.same("the least by trades", y.cashByTrades(0, 1500, 1800), -26335290000L);
    }

    /** "on all days from one to another one, both counted, together". */
    private static void bothDaysCounted() {
        Resetline x = new Resetline();
        x.trade(0, 1, false, 1, 0, 7, 1);
        x.trade(0, 10, false, 1, 7, 7, 1);
        spans(x, "from pay day to pay day", 7, 14, 77);
        spans(x, "from the day behind the first", 8, 14, 70);
        spans(x, "to the day ahead of the last", 7, 13, 7);
        spans(x, "between both", 8, 13, 0);
        spans(x, "one day alone", 7, 7, 7);
        spans(x, "one day without a flow", 6, 6, 0);
        spans(x, "day 0 alone", 0, 0, 0);
        spans(x, "the last day alone", 3100, 3100, 0);
    }

    /** "last: first to first + 400, at most 3100": the days at both ends of the longest span count. */
    private static void firstToFirstPlus400() {
        Resetline x = new Resetline();
        x.trade(0, 1, false, 1, 40, 100, 5);
        x.setTerms(0, 0, 1, Resetline.SIMPLE);
        // Paid on the days 140, 240, 340, 441 and 540, as only 440 is closed.
        spans(x, "401 days, a flow on the first and on the last", 140, 540, 500);
        spans(x, "401 days, a flow on the day ahead", 141, 541, 400);
        spans(x, "401 days, a flow on the last", 41, 441, 400);
        spans(x, "401 days, a flow on the day behind", 40, 440, 300);
        spans(x, "from day 0 on", 0, 400, 300);
        spans(x, "at most 3100", 2700, 3100, 0);
        Resetline y = new Resetline();
        y.trade(0, 1, false, 1, 1000, 180, 10);
        // Paid on the days 2261, 2440, 2620 and 2800, among others.
        spans(y, "the last flow that there can be, on the first day", 2800, 3100, 180);
        spans(y, "the last flow that there can be, on the last day", 2400, 2800, 179 + 180 + 180);
        spans(y, "behind it", 2801, 3100, 0);
    }

    private static void spans(Resetline x, String what, int first, int last, long due) {
        checks.same("by days, " + what, x.cashOfDays(0, first, last), due);
        checks.same("by trades, " + what, x.cashByTrades(0, first, last), due);
    }

    /** "Returns the same, found trade by trade": by the party of each pay day. */
    private static void theSameTradeByTrade() {
        Resetline x = new Resetline();
        x.trade(0, 1, false, 1, 0, 7, 4);
        x.trade(1, 10, false, 1, 0, 7, 4);
        x.handOver(0, 14, 1);
        x.handOver(0, 21, 0);
        x.handOver(1, 28, 0);
        spans(x, "handed over on pay days", 0, 400, 7 + 7 + 7 + 70);
        spans(x, "of the party of each day alone", 14, 21, 7);
        checks.same("of the other party by days", x.cashOfDays(1, 0, 400), 7 + 210);
        checks.same("of the other party by trades", x.cashByTrades(1, 0, 400), 7 + 210);
        checks.same("of no party's trades by days", x.cashOfDays(2, 0, 400), 0);
        checks.same("of no party's trades by trades", x.cashByTrades(2, 0, 400), 0);
    }

    /** "Returns the first day, from a day on, on which a party has a flow." */
    private static void fromADayOn() {
        Resetline x = new Resetline();
        x.trade(0, 1, true, 0, 0, 14, 2);
        x.trade(0, 1, true, 0, 0, 7, 1);
        checks.same("from day 0", x.nextFlow(0, 0), 7);
        checks.same("from the day ahead of it", x.nextFlow(0, 6), 7);
        checks.same("from the day itself", x.nextFlow(0, 7), 7);
        checks.same("from the day behind it", x.nextFlow(0, 8), 14);
        checks.same("from the last day itself", x.nextFlow(0, 28), 28);
        checks.same("from the day behind the last", x.nextFlow(0, 29), Resetline.NONE);
        x.handOver(0, 14, 1);
        x.handOver(0, 15, 0);
        checks.same("a day on which it is of another party", x.nextFlow(0, 8), 28);
        checks.same("that party's day", x.nextFlow(1, 0), 14);
        checks.same("that party's last day is behind", x.nextFlow(1, 15), Resetline.NONE);
    }

    /** "also if the flows of that day are 0 together". */
    private static void flowsOf0Together() {
        Resetline x = new Resetline();
        x.trade(0, 5, true, 100, 0, 7, 2);
        x.trade(0, 5, false, 100, 0, 7, 2);
        checks.same("no cash", x.cash(0, 7), 0);
        checks.same("two flows that are 0 together", x.nextFlow(0, 0), 7);
        Resetline y = new Resetline();
        y.fix(0, 100);
        y.trade(0, 5, true, 100, 0, 7, 2);
        checks.same("a flow of 0 alone", y.nextFlow(0, 0), 7);
    }

    /** "or of periods with 0 lots". */
    private static void periodsWith0Lots() {
        Resetline x = new Resetline();
        x.trade(0, 5, true, 100, 0, 7, 2);
        x.breakPart(0, 0, 5);
        checks.same("no lots", x.lots(0, 0), 0);
        checks.same("broken for all periods", x.nextFlow(0, 0), 7);
        checks.same("the last period too", x.nextFlow(0, 8), 14);
        Resetline y = new Resetline();
        y.trade(0, 5, true, 100, 0, 7, 2);
        y.trade(0, 5, false, 100, 0, 7, 2);
        y.press(7);
        checks.same("pressed to 0 lots", y.nextFlow(0, 8), 14);
    }

    /** "NONE if there is none." */
    private static void noneIfThereIsNone() {
        Resetline x = new Resetline();
        checks.same("no trades, day 0", x.nextFlow(0, 0), Resetline.NONE);
        checks.same("no trades, day 3100", x.nextFlow(3, 3100), Resetline.NONE);
        x.trade(0, 1, true, 0, 0, 7, 1);
        checks.same("of another party", x.nextFlow(1, 0), Resetline.NONE);
        checks.same("behind the last one", x.nextFlow(0, 8), Resetline.NONE);
        checks.same("from day 3100 on", x.nextFlow(0, 3100), Resetline.NONE);
        x.handOver(0, 1, 1);
        checks.same("handed over from day 1 on", x.nextFlow(0, 0), Resetline.NONE);
        x.handOver(0, 0, 1);
        checks.same("handed over from day 0 on", x.nextFlow(0, 0), Resetline.NONE);
    }
}
