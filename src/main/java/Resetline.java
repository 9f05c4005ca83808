import java.util.ArrayList;

/** A swap office, as ../shared/DOC.md promises it. */
public final class Resetline {
    public static final int NONE = -1;
    public static final int SIMPLE = 0, SPREAD_IN = 1, SPREAD_BESIDE = 2;

    private static final long LOT = 3600000;

    private static final int TOWNS = 2;
    private static final int PARTIES = 4;
    private static final int LAST_DAY = 3000;
    private static final int LAST_CASH_DAY = 3100;
    private static final int MOST_DAYS_ON = 400;

    private static final int DAYS_OF_WEEK = 7;
    private static final int WORKDAYS = 5;
    private static final int MOST_ROLLED_DAYS = 1000;

    private static final int MOST_HOLIDAYS = 20;
    private static final int MOST_FIXINGS = 60;
    private static final int MOST_TRADES = 10;
    private static final int MOST_HANDOVERS = 10;

    private static final int LEAST_RATE = -500;
    private static final int GREATEST_RATE = 2000;
    private static final int GREATEST_SPREAD = 500;
    private static final int MOST_LOTS = 1000;
    private static final int LATEST_FIRST_DAY = 1000;
    private static final int LEAST_LENGTH = 5;
    private static final int GREATEST_LENGTH = 180;
    private static final int MOST_PERIODS = 10;

    private final Calendar calendar;
    private final Diary fixings;
    private final ArrayList<Swap> book;

    public Resetline() {
        calendar = new Calendar();
        fixings = new Diary();
        book = new ArrayList<>();
    }

    // ---- calendars and fixings

    public int holiday(int town, int day)
            throws IndexOutOfBoundsException, IllegalArgumentException, IllegalStateException {
        if (town < 0 || town >= TOWNS) {
            throw new IndexOutOfBoundsException("no such town");
        }
        checkRange(day, 0, LAST_DAY);
        Diary holidays = calendar.holidaysOf(town);
        if (holidays.count() >= MOST_HOLIDAYS || holidays.has(day)) {
            throw new IllegalStateException("the town has this holiday, or no room for it");
        }
        holidays.add(day, town);
        rollAllTrades();
        return holidays.count();
    }

    public boolean isOpen(int day) throws IllegalArgumentException {
        checkRange(day, 0, LAST_DAY);
        return calendar.opensOn(day);
    }

    public int roll(int day) throws IllegalArgumentException {
        checkRange(day, 0, LAST_DAY);
        return calendar.rolledDayOf(day);
    }

    public int fix(int day, int rate) throws IllegalArgumentException, IllegalStateException {
        checkRange(day, 0, LAST_DAY);
        checkRange(rate, LEAST_RATE, GREATEST_RATE);
        if (fixings.count() >= MOST_FIXINGS && !fixings.has(day)) {
            throw new IllegalStateException("no room for another fixing");
        }
        fixings.put(day, rate);
        return fixings.count();
    }

    public int rateFor(int day) throws IllegalArgumentException {
        checkRange(day, 0, LAST_DAY);
        return fixings.latestValue(day, 0);
    }

    // ---- trades

    public int trade(int party, int lots, boolean paysFixed, int fixed, int first, int length, int periods)
            throws IndexOutOfBoundsException, IllegalArgumentException, IllegalStateException {
        checkParty(party);
        checkRange(lots, 1, MOST_LOTS);
        checkRange(fixed, LEAST_RATE, GREATEST_RATE);
        checkRange(first, 0, LATEST_FIRST_DAY);
        checkRange(length, LEAST_LENGTH, GREATEST_LENGTH);
        checkRange(periods, 1, MOST_PERIODS);
        if (book.size() >= MOST_TRADES) {
            throw new IllegalStateException("no room for another trade");
        }
        Swap swap = new Swap(party, lots, paysFixed, fixed, first, length, periods);
        swap.rollDays(calendar);
        book.add(swap);
        return book.size() - 1;
    }

    public void setTerms(int trade, int spread, int dayCount, int compounding)
            throws IndexOutOfBoundsException, IllegalArgumentException, IllegalStateException {
        Swap swap = swapAt(trade);
        checkRange(spread, -GREATEST_SPREAD, GREATEST_SPREAD);
        checkRange(dayCount, 0, 1);
        checkRange(compounding, SIMPLE, SPREAD_BESIDE);
        if (swap.breaks.count() > 0) {
            throw new IllegalStateException("the trade has a break");
        }
        swap.spread = spread;
        swap.dayCount = dayCount;
        swap.compounding = compounding;
    }

    public int breakPart(int trade, int day, int lots)
            throws IndexOutOfBoundsException, IllegalArgumentException, IllegalStateException {
        Swap swap = swapAt(trade);
        checkRange(day, 0, LAST_DAY);
        checkRange(lots, 1, MOST_LOTS);
        if (swap.restOfLots() < lots) {
            throw new IllegalStateException("the rest of the trade is less than that");
        }
        swap.breaks.add(day, lots);
        return swap.breaks.count();
    }

    public int handOver(int trade, int day, int party)
            throws IndexOutOfBoundsException, IllegalArgumentException, IllegalStateException {
        Swap swap = swapAt(trade);
        checkParty(party);
        checkRange(day, 0, LAST_DAY);
        if (swap.handovers.count() >= MOST_HANDOVERS) {
            throw new IllegalStateException("the trade was handed over too often");
        }
        int before = swap.holderOn(day);
        swap.handovers.add(day, party);
        return before;
    }

    public int press(int day) throws IllegalArgumentException {
        checkRange(day, 0, LAST_DAY);
        int pressed = 0;
        for (int i = 0; i < book.size(); i++) {
            for (int j = i + 1; j < book.size(); j++) {
                pressed += pressPair(book.get(i), book.get(j), day);
            }
        }
        return pressed;
    }

    public int trades() {
        return book.size();
    }

    // ---- periods

    public int start(int trade, int period) throws IndexOutOfBoundsException {
        return swapWithPeriod(trade, period).startOf(period);
    }

    public int end(int trade, int period) throws IndexOutOfBoundsException {
        return swapWithPeriod(trade, period).endOf(period);
    }

    public int lots(int trade, int period) throws IndexOutOfBoundsException {
        return swapWithPeriod(trade, period).lotsOf(period);
    }

    public long floating(int trade, int period) throws IndexOutOfBoundsException {
        return swapWithPeriod(trade, period).floatingOf(period, fixings);
    }

    public long flow(int trade, int period) throws IndexOutOfBoundsException {
        return swapWithPeriod(trade, period).flowOf(period, fixings);
    }

    public int partyOn(int trade, int day) throws IndexOutOfBoundsException, IllegalArgumentException {
        Swap swap = swapAt(trade);
        checkRange(day, 0, LAST_DAY);
        return swap.holderOn(day);
    }

    // ---- cash

    public long cash(int party, int day) throws IndexOutOfBoundsException, IllegalArgumentException {
        checkParty(party);
        checkRange(day, 0, LAST_CASH_DAY);
        return cashOnDay(party, day);
    }

    public long cashOfDays(int party, int first, int last)
            throws IndexOutOfBoundsException, IllegalArgumentException {
        checkParty(party);
        checkSpan(first, last);
        long sum = 0;
        for (int day = first; day <= last; day++) {
            sum += cashOnDay(party, day);
        }
        return sum;
    }

    public long cashByTrades(int party, int first, int last)
            throws IndexOutOfBoundsException, IllegalArgumentException {
        checkParty(party);
        checkSpan(first, last);
        long sum = 0;
        for (int i = 0; i < book.size(); i++) {
            sum += book.get(i).cashOf(party, first, last, fixings);
        }
        return sum;
    }

    public int nextFlow(int party, int day) throws IndexOutOfBoundsException, IllegalArgumentException {
        checkParty(party);
        checkRange(day, 0, LAST_CASH_DAY);
        int next = NONE;
        for (int i = 0; i < book.size(); i++) {
            int found = book.get(i).nextPayDay(party, day);
            if (found != NONE && (next == NONE || found < next)) {
                next = found;
            }
        }
        return next;
    }

    // ---- what the calls share

    private static void checkRange(int value, int least, int greatest) {
        if (value < least || value > greatest) {
            throw new IllegalArgumentException("an argument is out of range");
        }
    }

    private static void checkSpan(int first, int last) {
        checkRange(first, 0, LAST_CASH_DAY);
        checkRange(last, first, Math.min(first + MOST_DAYS_ON, LAST_CASH_DAY));
    }

    private static void checkParty(int party) {
        if (party < 0 || party >= PARTIES) {
            throw new IndexOutOfBoundsException("no such party");
        }
    }

    private Swap swapAt(int trade) {
        if (trade < 0 || trade >= book.size()) {
            throw new IndexOutOfBoundsException("no such trade");
        }
        return book.get(trade);
    }

    private Swap swapWithPeriod(int trade, int period) {
        Swap swap = swapAt(trade);
        if (period < 0 || period >= swap.periods) {
            throw new IndexOutOfBoundsException("no such period");
        }
        return swap;
    }

    private void rollAllTrades() {
        for (int i = 0; i < book.size(); i++) {
            book.get(i).rollDays(calendar);
        }
    }

    private long cashOnDay(int party, int day) {
        long sum = 0;
        for (int i = 0; i < book.size(); i++) {
            sum += book.get(i).cashOf(party, day, day, fixings);
        }
        return sum;
    }

    private static int pressPair(Swap one, Swap other, int day) {
        if (!one.fits(other) || !one.isOfSamePartyFrom(day, other)) {
            return 0;
        }
        int lots = Math.min(one.restOfLots(), other.restOfLots());
        if (lots <= 0) {
            return 0;
        }
        one.breaks.add(day, lots);
        other.breaks.add(day, lots);
        return lots;
    }

    /** A number that was entered for a day. */
    private static final class Entry {
        final int day;
        int value;

        Entry(int day, int value) {
            this.day = day;
            this.value = value;
        }
    }

    /** Numbers that were entered for days, in the order in which they came. */
    private static final class Diary {
        final ArrayList<Entry> entries;

        Diary() {
            entries = new ArrayList<>();
        }

        int count() {
            return entries.size();
        }

        boolean has(int day) {
            return entryOf(day) != null;
        }

        void add(int day, int value) {
            entries.add(new Entry(day, value));
        }

        void put(int day, int value) {
            Entry old = entryOf(day);
            if (old == null) {
                add(day, value);
            } else {
                old.value = value;
            }
        }

        /** The value of the greatest day that is not later, of several for it the last one. */
        int latestValue(int day, int otherwise) {
            int latest = NONE;
            int value = otherwise;
            for (int i = 0; i < entries.size(); i++) {
                Entry entry = entries.get(i);
                if (entry.day <= day && entry.day >= latest) {
                    latest = entry.day;
                    value = entry.value;
                }
            }
            return value;
        }

        int sumUntil(int day) {
            int sum = 0;
            for (int i = 0; i < entries.size(); i++) {
                Entry entry = entries.get(i);
                if (entry.day <= day) {
                    sum += entry.value;
                }
            }
            return sum;
        }

        private Entry entryOf(int day) {
            for (int i = 0; i < entries.size(); i++) {
                Entry entry = entries.get(i);
                if (entry.day == day) {
                    return entry;
                }
            }
            return null;
        }
    }

    /** The holidays of both towns. */
    private static final class Calendar {
        final Diary firstTown;
        final Diary secondTown;

        Calendar() {
            firstTown = new Diary();
            secondTown = new Diary();
        }

        Diary holidaysOf(int town) {
            return town == 0 ? firstTown : secondTown;
        }

        boolean opensOn(int day) {
            return Math.floorMod(day, DAYS_OF_WEEK) < WORKDAYS && !firstTown.has(day) && !secondTown.has(day);
        }

        /** Forty holidays close no more than some sixty days in a row, so the bound is never met. */
        int rolledDayOf(int day) {
            int rolled = day;
            for (int i = 0; i < MOST_ROLLED_DAYS && !opensOn(rolled); i++) {
                rolled++;
            }
            return rolled;
        }
    }

    /** A trade: its terms, its breaks and its handovers. */
    private static final class Swap {
        final int party;
        final int lots;
        final boolean paysFixed;
        final int fixed;
        final int first;
        final int length;
        final int periods;
        int spread;
        int dayCount;
        int compounding;
        final Diary breaks;
        final Diary handovers;
        /** The rolled days between the periods, kept because cash asks for them day by day. */
        final int[] bounds;

        Swap(int party, int lots, boolean paysFixed, int fixed, int first, int length, int periods) {
            this.party = party;
            this.lots = lots;
            this.paysFixed = paysFixed;
            this.fixed = fixed;
            this.first = first;
            this.length = length;
            this.periods = periods;
            spread = 0;
            dayCount = 0;
            compounding = SIMPLE;
            breaks = new Diary();
            handovers = new Diary();
            bounds = new int[MOST_PERIODS + 1];
        }

        /** To be called again whenever the calendar changes. */
        void rollDays(Calendar calendar) {
            for (int i = 0; i <= periods && i < bounds.length; i++) {
                bounds[i] = calendar.rolledDayOf(first + i * length);
            }
        }

        int startOf(int period) {
            return period >= 0 && period < bounds.length ? bounds[period] : NONE;
        }

        int endOf(int period) {
            return startOf(period + 1);
        }

        int lotsOf(int period) {
            return lots - breaks.sumUntil(startOf(period));
        }

        int restOfLots() {
            return lots - breaks.sumUntil(LAST_DAY);
        }

        int holderOn(int day) {
            return handovers.latestValue(day, party);
        }

        long floatingOf(int period, Diary fixings) {
            if (compounding == SIMPLE) {
                return (rateOf(period, fixings) + spread) * daysOf(period);
            }
            int spreadIn = compounding == SPREAD_IN ? spread : 0;
            int spreadBeside = spread - spreadIn;
            long compounded = 0;
            long growth = 0;
            for (int i = 0; i <= period && i < periods; i++) {
                long rate = rateOf(i, fixings) + spreadIn;
                growth = Math.floorDiv((LOT + compounded) * rate * daysOf(i), LOT);
                compounded += growth;
            }
            return growth + spreadBeside * daysOf(period);
        }

        long flowOf(int period, Diary fixings) {
            long gain = floatingOf(period, fixings) - fixed * daysOf(period);
            return lotsOf(period) * (paysFixed ? gain : -gain);
        }

        long cashOf(int ofParty, int from, int to, Diary fixings) {
            long sum = 0;
            for (int i = 0; i < periods; i++) {
                int payDay = endOf(i);
                if (payDay >= from && payDay <= to && holderOn(payDay) == ofParty) {
                    sum += flowOf(i, fixings);
                }
            }
            return sum;
        }

        /** Ends never go back from one period to the next, so the first one found is the first day. */
        int nextPayDay(int ofParty, int from) {
            for (int i = 0; i < periods; i++) {
                int payDay = endOf(i);
                if (payDay >= from && holderOn(payDay) == ofParty) {
                    return payDay;
                }
            }
            return NONE;
        }

        boolean fits(Swap other) {
            return paysFixed != other.paysFixed
                    && fixed == other.fixed
                    && spread == other.spread
                    && first == other.first
                    && length == other.length
                    && periods == other.periods
                    && dayCount == other.dayCount
                    && compounding == other.compounding;
        }

        /** Asked only of trades that fit: their periods have the same days. */
        boolean isOfSamePartyFrom(int day, Swap other) {
            boolean hasPeriod = false;
            for (int i = 0; i < periods; i++) {
                if (startOf(i) >= day) {
                    hasPeriod = true;
                    int payDay = endOf(i);
                    if (holderOn(payDay) != other.holderOn(payDay)) {
                        return false;
                    }
                }
            }
            return hasPeriod;
        }

        private long daysOf(int period) {
            return dayCount == 0 ? startOf(period + 1) - startOf(period) : length;
        }

        private long rateOf(int period, Diary fixings) {
            return fixings.latestValue(startOf(period), 0);
        }
    }
}
