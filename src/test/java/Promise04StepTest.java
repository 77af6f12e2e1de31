/** Promise 4: time passes, and how many items came into bins meanwhile. */
public final class Promise04StepTest {
    public static void main(String[] args) {
        countsSinceTheStepBefore();
        firstStep();
        outside();
        manyAtOnce();
        Due.end();
    }

    private static void countsSinceTheStepBefore() {
        Due.sentence("how many items came into bins (or were rejected) since the step before");
        GateTimes x = new GateTimes(1);
        x.item(0, 100);
        x.item(500, 100);
        x.item(1000, 100);
        x.item(1500, 100);
        x.order(2, 0, 0);
        Due.due("step(1499)", x.step(1499), 0);
        Due.due("step(2000): one in a bin, one rejected", x.step(2000), 2);
        Due.due("step(2000) again", x.step(2000), 0);
        x.order(4, 0, 3000);
        Due.due("step(5): refused", x.step(5), GateTimes.OUTSIDE);
        Due.due("step(3000): counts what came in an order's time", x.step(3000), 1);
        Due.due("step(9000)", x.step(9000), 1);
        Due.due("step(9000) again", x.step(9000), 0);
    }

    private static void firstStep() {
        Due.sentence("how many items came into bins (or were rejected) since the step before");
        GateTimes x = new GateTimes(1);
        Due.due("step(0), no items", x.step(0), 0);
        GateTimes y = new GateTimes(1);
        y.item(0, 100);
        y.item(500, 100);
        y.order(1, 0, 0);
        y.order(2, 0, 2499);
        Due.due("step(2500), the first: all since it was made", y.step(2500), 2);
        Due.due("step(2500) again", y.step(2500), 0);
    }

    private static void outside() {
        Due.sentence("OUTSIDE");
        GateTimes x = new GateTimes(1);
        x.item(0, 1);
        x.step(100);
        long[] times = {99, 0, -1, 1_000_000_001L, Long.MIN_VALUE, Long.MAX_VALUE, (1L << 32) + 200};
        for (long t : times) {
            Due.due("step(" + t + ")", x.step(t), GateTimes.OUTSIDE);
        }
        Due.due("item(100, 1): no time has passed", x.item(100, 1), 2);
        Due.due("step(10^9)", x.step(1_000_000_000L), 2);
        Due.due("step(10^9) again", x.step(1_000_000_000L), 0);
        Due.due("step(10^9 + 1)", x.step(1_000_000_001L), GateTimes.OUTSIDE);
    }

    private static void manyAtOnce() {
        Due.sentence("Time passes");
        GateTimes x = new GateTimes(12);
        for (int k = 0; k < 400; k++) {
            x.item(100L * k, 50);
        }
        Due.due("step over 400 items past 12 gates", x.step(1_000_000), 400);
        Due.due("count(12)", x.count(12), 400);
        for (int k = 0; k < 50; k++) {
            Due.due("out(" + k + ", 0)", x.out(k, 0), k + 1);
            Due.due("out(" + k + ", 2)", x.out(k, 2), 13_000 + 100L * k);
        }
    }
}
