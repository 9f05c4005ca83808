import java.util.Random;
import java.util.function.LongSupplier;

/** Long runs of calls by fixed seeds: each answers, or throws, what the oracle does. */
final class RandomRunsTest {
    private static final int RUNS = 1500;
    private static final int CALLS = 512;
    private static final int[] EDGES = {
        Integer.MIN_VALUE, -501, -2, -1, 0, 1, 2, 3, 4, 5, 10, 11, 180, 181, 400, 401, 500, 501, 1000, 1001,
        2000, 2001, 2600, 3000, 3001, 3100, 3101, Integer.MAX_VALUE - 400, Integer.MAX_VALUE
    };

    private final Random random;
    private final int seed;
    /** A small one crowds days and terms together, so that trades fit and holidays meet period ends. */
    private final int spreadOut;
    private Resetline office = new Resetline();
    private Oracle oracle = new Oracle();

    private RandomRunsTest(int seed) {
        this.seed = seed;
        random = new Random(seed);
        spreadOut = 1 + seed % 3;
    }

    public static void main(String[] args) {
        Checks checks = new Checks();
        for (int seed = 0; seed < RUNS; seed++) {
            String wrong = new RandomRunsTest(seed).run();
            checks.holds(wrong == null ? "run " + seed : wrong, wrong == null);
        }
        checks.close();
    }

    private String run() {
        for (int i = 0; i < CALLS; i++) {
            String wrong = i < CALLS * 2 / 3 && random.nextInt(3) > 0 ? enter() : ask();
            if (wrong != null) {
                return "seed " + seed + ", call " + i + ": " + wrong;
            }
        }
        return null;
    }

    private String enter() {
        switch (random.nextInt(8)) {
            case 0: {
                int town = number(2), day = day();
                return compare("holiday " + town + " " + day,
                        () -> office.holiday(town, day), () -> oracle.holiday(town, day));
            }
            case 1: {
                int day = day(), rate = rate();
                return compare("fix " + day + " " + rate, () -> office.fix(day, rate), () -> oracle.fix(day, rate));
            }
            case 2:
                return enterTrade();
            case 3: {
                int trade = trade(), spread = of(0, -500, 500, 37), count = number(2), way = number(3);
                return compare("setTerms " + trade + " " + spread + " " + count + " " + way,
                        () -> { office.setTerms(trade, spread, count, way); return 0; },
                        () -> { oracle.setTerms(trade, spread, count, way); return 0; });
            }
            case 4: {
                int trade = trade(), day = day(), lots = of(1, 2, 3, 500);
                return compare("breakPart " + trade + " " + day + " " + lots,
                        () -> office.breakPart(trade, day, lots), () -> oracle.breakPart(trade, day, lots));
            }
            case 5:
            case 6: {
                int trade = trade(), day = day(), party = number(spreadOut + 1);
                return compare("handOver " + trade + " " + day + " " + party,
                        () -> office.handOver(trade, day, party), () -> oracle.handOver(trade, day, party));
            }
            default: {
                int day = day();
                return compare("press " + day, () -> office.press(day), () -> oracle.press(day));
            }
        }
    }

    private String enterTrade() {
        int party = number(spreadOut + 1), lots = of(1, 2, 7, 1000);
        boolean pays = random.nextBoolean();
        int fixed = spreadOut == 1 ? of(100) : rate();
        int first = spreadOut == 1 ? of(20) : of(0, 1, 5, 20, 1000);
        int length = spreadOut == 1 ? of(5) : of(5, 6, 7, 30, 90, 180);
        int periods = spreadOut == 1 ? of(9) : of(1, 2, 9, 10);
        return compare("trade " + party + " " + lots + " " + pays + " " + fixed + " " + first + " " + length
                        + " " + periods,
                () -> office.trade(party, lots, pays, fixed, first, length, periods),
                () -> oracle.trade(party, lots, pays, fixed, first, length, periods));
    }

    private String ask() {
        int trade = trade(), period = number(10), day = day(), party = number(4), last = lastFor(day);
        String on = " " + trade + " " + period;
        switch (random.nextInt(14)) {
            case 0:
                return compare("isOpen " + day, () -> office.isOpen(day) ? 1 : 0, () -> oracle.isOpen(day) ? 1 : 0);
            case 1:
                return compare("roll " + day, () -> office.roll(day), () -> oracle.roll(day));
            case 2:
                return compare("rateFor " + day, () -> office.rateFor(day), () -> oracle.rateFor(day));
            case 3:
                return compare("trades", () -> office.trades(), () -> oracle.trades());
            case 4:
                return compare("start" + on, () -> office.start(trade, period), () -> oracle.start(trade, period));
            case 5:
                return compare("end" + on, () -> office.end(trade, period), () -> oracle.end(trade, period));
            case 6:
                return compare("lots" + on, () -> office.lots(trade, period), () -> oracle.lots(trade, period));
            case 7:
                return compare("floating" + on,
                        () -> office.floating(trade, period), () -> oracle.floating(trade, period));
            case 8:
                return compare("flow" + on, () -> office.flow(trade, period), () -> oracle.flow(trade, period));
            case 9:
                return compare("partyOn " + trade + " " + day,
                        () -> office.partyOn(trade, day), () -> oracle.partyOn(trade, day));
            case 10:
                return compare("cash " + party + " " + day,
                        () -> office.cash(party, day), () -> oracle.cash(party, day));
            case 11:
                return compare("cashOfDays " + party + " " + day + " " + last,
                        () -> office.cashOfDays(party, day, last), () -> oracle.cashBetweenDays(party, day, last));
            case 12:
                return compare("cashByTrades " + party + " " + day + " " + last,
                        () -> office.cashByTrades(party, day, last), () -> oracle.cashBetweenDays(party, day, last));
            default:
                return compare("nextFlow " + party + " " + day,
                        () -> office.nextFlow(party, day), () -> oracle.nextFlow(party, day));
        }
    }

    /** Null if both answer or throw the same. */
    private static String compare(String call, LongSupplier office, LongSupplier oracle) {
        String got = answerOf(office, true);
        String due = answerOf(oracle, false);
        return got.equals(due) ? null : call + " answered " + got + ", due is " + due;
    }

    private static String answerOf(LongSupplier call, boolean ofProgram) {
        try {
            return Long.toString(call.getAsLong());
        } catch (RuntimeException e) {
            boolean foreign = ofProgram && !Checks.isThrownByProgram(e);
            return e.getClass().getName() + (foreign ? ", not by its own throw" : "");
        }
    }

    private boolean rarely() {
        return random.nextInt(40) == 0;
    }

    private int edge() {
        return EDGES[random.nextInt(EDGES.length)];
    }

    private int of(int... values) {
        return rarely() ? edge() : values[random.nextInt(values.length)];
    }

    private int number(int below) {
        return rarely() ? edge() : random.nextInt(below);
    }

    private int trade() {
        return rarely() || oracle.trades() == 0 ? of(-1, 0, 10) : random.nextInt(oracle.trades());
    }

    private int rate() {
        return rarely() ? edge() : random.nextInt(2501) - 500;
    }

    private int day() {
        if (rarely()) {
            return edge();
        }
        return spreadOut == 1 ? random.nextInt(90) : random.nextInt(3001) / random.nextInt(1, 4);
    }

    private int lastFor(int first) {
        return rarely() ? edge() : first + random.nextInt(402);
    }
}
