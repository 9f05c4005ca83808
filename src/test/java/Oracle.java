import java.math.BigInteger;
import java.util.ArrayList;
import java.util.HashMap;
import java.util.List;
import java.util.Map;
import java.util.TreeMap;
import java.util.TreeSet;

/** The document's terms once more, with nothing kept but what was entered, to compare Resetline with. */
final class Oracle {
    private static final BigInteger LOT = BigInteger.valueOf(3600000);

    private static final class Deal {
        int party, lots, fixed, first, length, periods, spread, dayCount, compounding;
        boolean paysFixed;
        final List<int[]> breaks = new ArrayList<>();
        final List<int[]> handovers = new ArrayList<>();
    }

    private record Flow(int day, int party, long cents) { }

    private final List<TreeSet<Integer>> towns = List.of(new TreeSet<>(), new TreeSet<>());
    private final TreeMap<Integer, Integer> rates = new TreeMap<>();
    private final List<Deal> deals = new ArrayList<>();

    int holiday(int town, int day) {
        bounds(town == 0 || town == 1);
        argument(day >= 0 && day <= 3000);
        state(towns.get(town).size() < 20 && !towns.get(town).contains(day));
        towns.get(town).add(day);
        return towns.get(town).size();
    }

    boolean isOpen(int day) {
        argument(day >= 0 && day <= 3000);
        return open(day);
    }

    int roll(int day) {
        argument(day >= 0 && day <= 3000);
        return rolled(day);
    }

    int fix(int day, int rate) {
        argument(day >= 0 && day <= 3000 && rate >= -500 && rate <= 2000);
        state(rates.size() < 60 || rates.containsKey(day));
        rates.put(day, rate);
        return rates.size();
    }

    int rateFor(int day) {
        argument(day >= 0 && day <= 3000);
        return rate(day);
    }

    int trade(int party, int lots, boolean paysFixed, int fixed, int first, int length, int periods) {
        bounds(party >= 0 && party <= 3);
        argument(lots >= 1 && lots <= 1000);
        argument(fixed >= -500 && fixed <= 2000);
        argument(first >= 0 && first <= 1000);
        argument(length >= 5 && length <= 180);
        argument(periods >= 1 && periods <= 10);
        state(deals.size() < 10);
        Deal deal = new Deal();
        deal.party = party;
        deal.lots = lots;
        deal.paysFixed = paysFixed;
        deal.fixed = fixed;
        deal.first = first;
        deal.length = length;
        deal.periods = periods;
        deals.add(deal);
        return deals.size() - 1;
    }

    void setTerms(int trade, int spread, int dayCount, int compounding) {
        Deal deal = deal(trade);
        argument(spread >= -500 && spread <= 500);
        argument(dayCount == 0 || dayCount == 1);
        argument(compounding >= 0 && compounding <= 2);
        state(deal.breaks.isEmpty());
        deal.spread = spread;
        deal.dayCount = dayCount;
        deal.compounding = compounding;
    }

    int breakPart(int trade, int day, int lots) {
        Deal deal = deal(trade);
        argument(day >= 0 && day <= 3000 && lots >= 1 && lots <= 1000);
        state(rest(deal) >= lots);
        deal.breaks.add(new int[] {day, lots});
        return deal.breaks.size();
    }

    int handOver(int trade, int day, int party) {
        Deal deal = deal(trade);
        bounds(party >= 0 && party <= 3);
        argument(day >= 0 && day <= 3000);
        state(deal.handovers.size() < 10);
        int before = holder(deal, day);
        deal.handovers.add(new int[] {day, party});
        return before;
    }

    int press(int day) {
        argument(day >= 0 && day <= 3000);
        int pressed = 0;
        for (Deal one : deals) {
            for (Deal other : deals.subList(deals.indexOf(one) + 1, deals.size())) {
                int lots = Math.min(rest(one), rest(other));
                if (lots > 0 && fit(one, other) && sameParty(one, other, day)) {
                    one.breaks.add(new int[] {day, lots});
                    other.breaks.add(new int[] {day, lots});
                    pressed += lots;
                }
            }
        }
        return pressed;
    }

    int trades() {
        return deals.size();
    }

    int start(int trade, int period) {
        return from(dealWith(trade, period), period);
    }

    int end(int trade, int period) {
        return from(dealWith(trade, period), period + 1);
    }

    int lots(int trade, int period) {
        return lotsIn(dealWith(trade, period), period);
    }

    long floating(int trade, int period) {
        return floatingIn(dealWith(trade, period), period);
    }

    long flow(int trade, int period) {
        return flowIn(dealWith(trade, period), period);
    }

    int partyOn(int trade, int day) {
        Deal deal = deal(trade);
        argument(day >= 0 && day <= 3000);
        return holder(deal, day);
    }

    long cash(int party, int day) {
        bounds(party >= 0 && party <= 3);
        argument(day >= 0 && day <= 3100);
        return cashBetween(party, day, day);
    }

    long cashBetweenDays(int party, int first, int last) {
        bounds(party >= 0 && party <= 3);
        argument(first >= 0 && first <= 3100);
        argument(last >= first && last - (long) first <= 400 && last <= 3100);
        return cashBetween(party, first, last);
    }

    int nextFlow(int party, int day) {
        bounds(party >= 0 && party <= 3);
        argument(day >= 0 && day <= 3100);
        return flows().stream().filter(f -> f.party() == party && f.day() >= day)
                .mapToInt(Flow::day).min().orElse(-1);
    }

    private static void bounds(boolean right) {
        if (!right) {
            throw new IndexOutOfBoundsException();
        }
    }

    private static void argument(boolean right) {
        if (!right) {
            throw new IllegalArgumentException();
        }
    }

    private static void state(boolean right) {
        if (!right) {
            throw new IllegalStateException();
        }
    }

    private Deal deal(int trade) {
        bounds(trade >= 0 && trade < deals.size());
        return deals.get(trade);
    }

    private Deal dealWith(int trade, int period) {
        Deal deal = deal(trade);
        bounds(period >= 0 && period < deal.periods);
        return deal;
    }

    private boolean open(int day) {
        return day % 7 < 5 && towns.stream().noneMatch(town -> town.contains(day));
    }

    private int rolled(int day) {
        return open(day) ? day : rolled(day + 1);
    }

    private int rate(int day) {
        Map.Entry<Integer, Integer> fixing = rates.floorEntry(day);
        return fixing == null ? 0 : fixing.getValue();
    }

    private int from(Deal deal, int period) {
        return rolled(deal.first + period * deal.length);
    }

    private int days(Deal deal, int period) {
        return deal.dayCount == 1 ? deal.length : from(deal, period + 1) - from(deal, period);
    }

    private static int rest(Deal deal) {
        return deal.lots - deal.breaks.stream().mapToInt(b -> b[1]).sum();
    }

    private int lotsIn(Deal deal, int period) {
        int start = from(deal, period);
        return deal.lots - deal.breaks.stream().filter(b -> b[0] <= start).mapToInt(b -> b[1]).sum();
    }

    private static int holder(Deal deal, int day) {
        Map<Integer, Integer> lastOfDay = new HashMap<>();
        deal.handovers.forEach(h -> lastOfDay.put(h[0], h[1]));
        for (int d = day; d >= 0; d--) {
            if (lastOfDay.containsKey(d)) {
                return lastOfDay.get(d);
            }
        }
        return deal.party;
    }

    private long floatingIn(Deal deal, int period) {
        long rate = rate(from(deal, period));
        long days = days(deal, period);
        if (deal.compounding == 0) {
            return (rate + deal.spread) * days;
        }
        long grown = growth(deal, period, compoundedAhead(deal, period));
        return deal.compounding == 1 ? grown : grown + deal.spread * days;
    }

    private BigInteger compoundedAhead(Deal deal, int period) {
        if (period == 0) {
            return BigInteger.ZERO;
        }
        BigInteger earlier = compoundedAhead(deal, period - 1);
        return earlier.add(BigInteger.valueOf(growth(deal, period - 1, earlier)));
    }

    private long growth(Deal deal, int period, BigInteger compounded) {
        long rate = rate(from(deal, period)) + (deal.compounding == 1 ? deal.spread : 0);
        BigInteger product = LOT.add(compounded).multiply(BigInteger.valueOf(rate * days(deal, period)));
        BigInteger[] parts = product.divideAndRemainder(LOT);
        return parts[1].signum() < 0 ? parts[0].longValueExact() - 1 : parts[0].longValueExact();
    }

    private long flowIn(Deal deal, int period) {
        long fixed = (long) deal.fixed * days(deal, period);
        long floating = floatingIn(deal, period);
        long gain = deal.paysFixed ? floating - fixed : fixed - floating;
        return lotsIn(deal, period) * gain;
    }

    private static boolean fit(Deal one, Deal other) {
        return List.of(one.fixed, one.spread, one.first, one.length, one.periods, one.dayCount, one.compounding)
                .equals(List.of(other.fixed, other.spread, other.first, other.length, other.periods,
                        other.dayCount, other.compounding))
                && one.paysFixed == !other.paysFixed;
    }

    private boolean sameParty(Deal one, Deal other, int day) {
        int asked = 0;
        for (int k = 0; k < one.periods; k++) {
            if (from(one, k) >= day) {
                asked++;
                int paid = from(one, k + 1);
                if (holder(one, paid) != holder(other, paid)) {
                    return false;
                }
            }
        }
        return asked > 0;
    }

    private List<Flow> flows() {
        List<Flow> all = new ArrayList<>();
        for (Deal deal : deals) {
            for (int k = 0; k < deal.periods; k++) {
                int paid = from(deal, k + 1);
                all.add(new Flow(paid, holder(deal, paid), flowIn(deal, k)));
            }
        }
        return all;
    }

    private long cashBetween(int party, int first, int last) {
        return flows().stream().filter(f -> f.party() == party && f.day() >= first && f.day() <= last)
                .mapToLong(Flow::cents).sum();
    }
}
