/** Promise 4: time passes; and what the Terms say of the gates while it does. */
public final class Promise04StepTest {
    public static void main(String[] args) {
        countsSinceTheStepBefore();
        outside();
        gateTurnsBetweenItems();
        gateCannotOpenInTime();
        gateCannotCloseInTime();
        itemsThatDoNotTurnItHinderToo();
        manyAtOnce();
        Due.end();
    }

    private static void countsSinceTheStepBefore() {
        GateTimes x = new GateTimes(1);
        x.item(0, 100);
        x.item(500, 100);
        x.item(1000, 100);
        x.item(1500, 100);
        x.order(2, 0, 0);
        Due.due("step(1499)", x.step(1499), 0);
        Due.due("step(2000): one in a bin, one rejected", x.step(2000), 2);
        Due.due("step(2000) again", x.step(2000), 0);
        x.order(4, 0, 3000);
        Due.due("step(5): refused", x.step(5), GateTimes.OUTSIDE);
        Due.due("step(3000): counts what came in an order's time", x.step(3000), 1);
        Due.due("step(9000)", x.step(9000), 1);
        Due.due("step(9000) again", x.step(9000), 0);
    }

    private static void outside() {
        GateTimes x = new GateTimes(1);
        x.item(0, 1);
        x.step(100);
        long[] times = {99, 0, -1, 1_000_000_001L, Long.MIN_VALUE, Long.MAX_VALUE, (1L << 32) + 200};
        for (long t : times) {
            Due.due("step(" + t + ")", x.step(t), GateTimes.OUTSIDE);
        }
        Due.due("item(100, 1): no time has passed", x.item(100, 1), 2);
        Due.due("step(10^9)", x.step(1_000_000_000L), 2);
        Due.due("step(10^9) again", x.step(1_000_000_000L), 0);
        Due.due("step(10^9 + 1)", x.step(1_000_000_001L), GateTimes.OUTSIDE);
    }

    private static void gateTurnsBetweenItems() {
        GateTimes x = new GateTimes(2);
        x.item(0, 100);
        x.item(300, 100);
        x.item(600, 100);
        x.order(2, 0, 0);
        x.step(100_000);
        Due.due("item 2 opened the gate, 200 behind", binOf(x, 2, 3), 0);
        Due.due("item 1 went on", binOf(x, 1, 3), 2);
        Due.due("item 3 closed the gate, 200 behind", binOf(x, 3, 3), 2);
    }

    private static void gateCannotOpenInTime() {
        GateTimes x = new GateTimes(2);
        x.item(0, 100);
        x.item(299, 100);
        x.order(2, 0, 0);
        x.step(100_000);
        Due.due("item 2, 199 behind, went past its bin", binOf(x, 2, 2), 2);
    }

    private static void gateCannotCloseInTime() {
        GateTimes x = new GateTimes(2);
        x.item(0, 100);
        x.item(299, 100);
        x.item(598, 100);
        x.item(898, 100);
        x.order(1, 0, 0);
        x.order(2, 1, 0);
        x.step(100_000);
        Due.due("item 1 is in its bin", binOf(x, 1, 4), 0);
        Due.due("item 2 came into the open gate", binOf(x, 2, 4), 0);
        Due.due("item 3 as well", binOf(x, 3, 4), 0);
        Due.due("item 4 closed the gate", binOf(x, 4, 4), 2);
    }

    private static void itemsThatDoNotTurnItHinderToo() {
        GateTimes x = new GateTimes(1);
        x.item(0, 1);
        x.item(51, 1);
        x.item(102, 1);
        x.item(252, 1);
        x.item(453, 1);
        for (int k = 2; k <= 5; k++) {
            x.order(k, 0, 0);
        }
        x.step(100_000);
        Due.due("item 4 is 149 behind item 3", binOf(x, 4, 5), 1);
        Due.due("item 5 is 200 behind item 4", binOf(x, 5, 5), 0);
    }

    private static void manyAtOnce() {
        GateTimes x = new GateTimes(12);
        for (int k = 0; k < 400; k++) {
            x.item(100L * k, 50);
        }
        Due.due("step over 400 items past 12 gates", x.step(1_000_000), 400);
        Due.due("count(12)", x.count(12), 400);
        for (int k = 0; k < 50; k++) {
            Due.due("out(" + k + ", 0)", x.out(k, 0), k + 1);
            Due.due("out(" + k + ", 2)", x.out(k, 2), 13_000 + 100L * k);
        }
    }

    private static int binOf(GateTimes x, int item, int arrived) {
        for (int i = 0; i < arrived; i++) {
            if (x.out(i, 0) == item) {
                return x.out(i, 1);
            }
        }
        return -1;
    }
}
