import java.util.ArrayList;
import java.util.Arrays;
import java.util.List;
import java.util.Random;

/**
 * Runs of many calls, compared with a model that walks through the document's words millisecond by
 * millisecond; the seeds are fixed, so that each run is the same each time.
 */
public final class PlainModelTest {
    private static final int RUNS = 300;
    private static final int ROUNDS = 280;
    private static final int CALLS_PROMISED = 512;

    private static int calls = 0;

    public static void main(String[] args) {
        for (int seed = 0; seed < RUNS; seed++) {
            compare(seed);
        }
        Due.end();
    }

    private static void compare(int seed) {
        Random random = new Random(seed);
        int gates = random.nextInt(15) - 1;
        GateTimes x = new GateTimes(gates);
        Model m = new Model(gates);
        int pace = random.nextInt(3);
        calls = 0;
        for (int round = 0; round < ROUNDS; round++) {
            String where = "seed " + seed + ", round " + round + ": ";
            switch (random.nextInt(12)) {
                case 0: case 1: case 2: {
                    long at = m.nextFreeTime() + gap(random, pace) - random.nextInt(3);
                    long length = random.nextInt(8) == 0 ? random.nextInt(1000) : 1 + random.nextInt(120);
                    due(where + "item(" + at + ", " + length + ")", x.item(at, length), m.item(at, length));
                    break;
                }
                case 3: case 4: case 5: {
                    int item = Math.max(m.itemCount() - 8, 0) + random.nextInt(10);
                    int bin = random.nextInt(m.gates + 1) - random.nextInt(12) / 11;
                    long t = nextTime(random, m, pace);
                    due(where + "order(" + item + ", " + bin + ", " + t + ")",
                        x.order(item, bin, t), m.order(item, bin, t));
                    due(where + "late(" + item + ")", x.late(item), m.late(item));
                    break;
                }
                case 6: case 7: {
                    long t = nextTime(random, m, pace);
                    due(where + "step(" + t + ")", x.step(t), m.step(t));
                    break;
                }
                case 8: {
                    int bin = random.nextInt(m.gates + 1);
                    int n = random.nextInt(5);
                    due(where + "height(" + bin + ", " + n + ")", x.height(bin, n), m.height(bin, n));
                    break;
                }
                case 9: {
                    int bin = random.nextInt(m.gates + 1);
                    due(where + "swap(" + bin + ")", x.swap(bin), m.swap(bin));
                    break;
                }
                case 10: {
                    int gate = random.nextInt(m.gates + 1);
                    boolean on = random.nextInt(4) == 0;
                    due(where + "stuck(" + gate + ", " + on + ")", x.stuck(gate, on), m.stuck(gate, on));
                    break;
                }
                default: {
                    int i = random.nextInt(m.out.size() + 2) - 1;
                    int what = random.nextInt(5) - 1;
                    due(where + "out(" + i + ", " + what + ")", x.out(i, what), m.out(i, what));
                    due(where + "verify(" + i + ", " + what + ")", x.verify(i, what), m.verify(i, what));
                }
            }
        }
        compareEnds("seed " + seed + ", at the end: ", x, m);
    }

    private static void due(String call, int got, int want) {
        calls++;
        if (calls <= CALLS_PROMISED) {
            Due.due(call, got, want);
        }
    }

    private static long gap(Random random, int pace) {
        return random.nextInt(pace == 0 ? 5 : pace == 1 ? 200 : 900);
    }

    private static long nextTime(Random random, Model m, int pace) {
        return m.now + random.nextInt(pace == 0 ? 60 : pace == 1 ? 150 : 600) - random.nextInt(10) / 9;
    }

    private static void compareEnds(String where, GateTimes x, Model m) {
        long end = m.now + 120_000;
        due(where + "step", x.step(end), m.step(end));
        for (int bin = -1; bin <= m.gates + 1; bin++) {
            due(where + "count(" + bin + ")", x.count(bin), m.count(bin));
            due(where + "swap(" + bin + ")", x.swap(bin), m.swap(bin));
        }
        for (int i = -1; i <= m.out.size(); i++) {
            for (int what = 0; what < 3; what++) {
                due(where + "out(" + i + ", " + what + ")", x.out(i, what), m.out(i, what));
                due(where + "verify(" + i + ", " + what + ")", x.verify(i, what), m.verify(i, what));
            }
        }
        for (int item = 0; item <= m.itemCount() + 1; item++) {
            due(where + "late(" + item + ")", x.late(item), m.late(item));
        }
    }

    /** An item, or what became of it. */
    private static final class Thing {
        final int number;
        final long at;
        final long length;
        int order = -1;
        int bin = -1;
        long time = -1;
        long late = 0;

        Thing(int number, long at, long length) {
            this.number = number;
            this.at = at;
            this.length = length;
        }
    }

    private static final class Model {
        final int gates;
        final List<Thing> things = new ArrayList<>();
        final List<Thing> out = new ArrayList<>();
        final boolean[] open;
        final boolean[] stuck;
        final Thing[] before;
        final int[] height;
        final int[] held;
        long now = 0;
        int told = 0;

        Model(int asked) {
            gates = asked < 1 ? 1 : asked > 12 ? 12 : asked;
            open = new boolean[gates];
            stuck = new boolean[gates];
            before = new Thing[gates];
            height = new int[gates];
            held = new int[gates];
            Arrays.fill(height, 1000);
        }

        int itemCount() {
            return things.size();
        }

        long nextFreeTime() {
            if (things.isEmpty()) {
                return now;
            }
            Thing last = things.get(things.size() - 1);
            return Math.max(now, last.at + last.length + 50);
        }

        int item(long at, long length) {
            boolean tooNear = false;
            for (Thing thing : things) {
                tooNear |= at - (thing.at + thing.length) < 50;
            }
            if (length < 1 || length > 900 || at < now || at > 1_000_000_000 || tooNear) {
                return -102;
            }
            if (things.size() == 400) {
                return -104;
            }
            things.add(new Thing(things.size() + 1, at, length));
            return things.size();
        }

        int order(int item, int bin, long t) {
            if (item < 1 || item > things.size() || bin < 0 || bin > gates - 1) {
                return -101;
            }
            if (t < now || t > 1_000_000_000) {
                return -102;
            }
            pass(t);
            Thing thing = things.get(item - 1);
            long front = thing.at + 1000 * (bin + 1);
            if (thing.bin >= 0) {
                return 0;
            }
            if (thing.order >= 0) {
                return 2;
            }
            if (front - t < 200) {
                thing.late = 200 - (front - t);
                return 0;
            }
            thing.order = bin;
            return 1;
        }

        int step(long t) {
            if (t < now || t > 1_000_000_000) {
                return -102;
            }
            pass(t);
            int fresh = out.size() - told;
            told = out.size();
            return fresh;
        }

        int out(int i, int what) {
            if (i < 0 || i >= out.size() || what < 0 || what > 2) {
                return -1;
            }
            Thing thing = out.get(i);
            return what == 0 ? thing.number : what == 1 ? thing.bin : (int) thing.time;
        }

        int verify(int i, int what) {
            List<Thing> wrong = new ArrayList<>();
            for (Thing thing : out) {
                if (thing.order >= 0 && thing.order != thing.bin) {
                    wrong.add(thing);
                }
            }
            if (i < 0 || i >= wrong.size() || what < 0 || what > 2) {
                return -1;
            }
            Thing thing = wrong.get(i);
            return what == 0 ? thing.number : what == 1 ? thing.order : thing.bin;
        }

        int height(int bin, int n) {
            if (bin < 0 || bin > gates - 1) {
                return -101;
            }
            if (n < 1 || n > 1000) {
                return -102;
            }
            int was = height[bin];
            height[bin] = n;
            return was;
        }

        int swap(int bin) {
            if (bin < 0 || bin > gates - 1) {
                return -101;
            }
            int was = held[bin];
            held[bin] = 0;
            return was;
        }

        int stuck(int gate, boolean on) {
            if (gate < 0 || gate > gates - 1) {
                return -101;
            }
            boolean was = stuck[gate];
            stuck[gate] = on;
            return was == on ? 0 : 1;
        }

        int late(int item) {
            return item < 1 || item > things.size() ? -101 : (int) things.get(item - 1).late;
        }

        int count(int bin) {
            if (bin < 0 || bin > gates) {
                return -101;
            }
            int n = 0;
            for (Thing thing : out) {
                n += thing.bin == bin ? 1 : 0;
            }
            return n;
        }

        private void pass(long t) {
            for (long ms = now + 1; ms <= t; ms++) {
                for (Thing thing : things) {
                    long onBelt = ms - thing.at;
                    if (thing.bin < 0 && onBelt > 0 && onBelt % 1000 == 0) {
                        arrive(thing, (int) (onBelt / 1000) - 1, ms);
                    }
                }
            }
            now = t;
        }

        private void arrive(Thing thing, int gate, long ms) {
            if (gate == gates || goesIn(thing, gate, ms)) {
                thing.bin = gate;
                thing.time = ms;
                out.add(thing);
            }
        }

        private boolean goesIn(Thing thing, int gate, long ms) {
            boolean full = held[gate] >= height[gate];
            boolean should = thing.order == gate && !full;
            Thing last = before[gate];
            boolean free = last == null || ms - (last.at + 1000 * (gate + 1) + last.length) >= 200;
            if (open[gate] != should && !stuck[gate] && free) {
                open[gate] = !open[gate];
            }
            before[gate] = thing;
            held[gate] += open[gate] ? 1 : 0;
            return open[gate];
        }
    }
}
