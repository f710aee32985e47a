import java.util.ArrayList;
import java.util.BitSet;
import java.util.List;
import java.util.Random;

/**
 * Promises 5 to 8 without any reckoning of bounds: all hours of four things are tried out, and which
 * of them make a saying true is looked up in rows of bits.
 */
final class HoursTest {
    private static final int THINGS = 4;
    // Sayings go up to 2 hours either way, so things that hang together are at most 6 apart; the
    // rest of the room lets things that don't be farther apart, whatever hangs on each.
    private static final int MOST_APART = 6;
    private static final int ROOM = 11;
    private static final int HOURS = 2 * ROOM + 1;
    private static final int TRIES = HOURS * HOURS * HOURS;
    private static final int NO_SPAN = Integer.MIN_VALUE;

    private final Random random;
    private final SalvageCourt court = new SalvageCourt();
    private final int[] things = new int[THINGS];
    private final int[] trusts = {5, 5, 5, 5, 5, 5};
    private final List<Integer> logs = new ArrayList<>();
    private final List<BitSet> trueAt = new ArrayList<>();
    private final String name;

    private HoursTest(int seed) {
        random = new Random(seed);
        name = "run " + seed + ": ";
        int first = random.nextInt(16);
        int step = 1 + 2 * random.nextInt(8);
        for (int i = 0; i < THINGS; i++) {
            things[i] = (first + i * step) % 16;
        }
    }

    public static void main(String[] args) {
        for (int seed = 0; seed < 400; seed++) {
            HoursTest run = new HoursTest(seed);
            for (int step = 0; step < 16; step++) {
                run.tell();
                run.compare();
            }
        }
        Due.finish();
    }

    /** The hour of thing 0 is 0; only differences count. */
    private static int hour(int thing, int tried) {
        int left = tried;
        int hour = 0;
        for (int i = 0; i < thing; i++) {
            hour = left % HOURS - ROOM;
            left /= HOURS;
        }
        return hour;
    }

    private void tell() {
        if (random.nextInt(3) == 0) {
            int log = random.nextInt(6);
            trusts[log] = random.nextInt(10);
            court.trust(log, trusts[log]);
            return;
        }
        int log = random.nextInt(6);
        int a = random.nextInt(THINGS);
        int b = (a + 1 + random.nextInt(THINGS - 1)) % THINGS;
        int low = random.nextInt(5) - 2;
        int high = low + random.nextInt(3 - low);
        Due.due(name + "says", court.says(log, things[a], things[b], low, high), logs.size());
        BitSet bits = new BitSet(TRIES);
        for (int tried = 0; tried < TRIES; tried++) {
            int apart = hour(b, tried) - hour(a, tried);
            bits.set(tried, apart >= low && apart <= high);
        }
        logs.add(log);
        trueAt.add(bits);
    }

    private void compare() {
        BitSet all = new BitSet(TRIES);
        all.set(0, TRIES);
        int howMany = 0;
        for (int trust = 9; trust >= 0; trust--) {
            for (int i = 0; i < logs.size(); i++) {
                if (trusts[logs.get(i)] != trust) {
                    continue;
                }
                boolean taken = all.intersects(trueAt.get(i));
                Due.due(name + "believed(" + i + ")", court.believed(i), taken ? 1 : 0);
                if (taken) {
                    all.and(trueAt.get(i));
                    howMany++;
                }
            }
        }
        Due.due(name + "count(2)", court.count(2), howMany);
        compareSpans(all);
        compareQuarrel();
    }

    private void compareSpans(BitSet all) {
        for (int a = 0; a < THINGS; a++) {
            for (int b = 0; b < THINGS; b++) {
                int least = Integer.MAX_VALUE;
                int greatest = Integer.MIN_VALUE;
                for (int t = all.nextSetBit(0); t >= 0; t = all.nextSetBit(t + 1)) {
                    least = Math.min(least, hour(b, t) - hour(a, t));
                    greatest = Math.max(greatest, hour(b, t) - hour(a, t));
                }
                Due.due(name + "least", court.spans(things[a], things[b], 0),
                        least < -MOST_APART ? NO_SPAN : least);
                Due.due(name + "greatest", court.spans(things[a], things[b], 1),
                        greatest > MOST_APART ? NO_SPAN : greatest);
            }
        }
    }

    private boolean together(List<Integer> some) {
        BitSet all = new BitSet(TRIES);
        all.set(0, TRIES);
        for (int i : some) {
            all.and(trueAt.get(i));
        }
        return !all.isEmpty();
    }

    private void compareQuarrel() {
        List<Integer> left = new ArrayList<>();
        for (int i = 0; i < logs.size(); i++) {
            left.add(i);
        }
        if (together(left)) {
            left.clear();
        }
        for (int i = left.size() - 1; i >= 0; i--) {
            List<Integer> rest = new ArrayList<>(left);
            rest.remove(Integer.valueOf(i));
            if (!together(rest)) {
                left = rest;
            }
        }
        Due.due(name + "quarrel()", court.quarrel(), left.size());
        for (int k = 0; k <= left.size(); k++) {
            Due.due(name + "quarrels(" + k + ")", court.quarrels(k), k < left.size() ? left.get(k) : -1);
        }
    }
}
