/** Promise 3: time passes, then an item is ordered into a bin. */
public final class Promise03OrderTest {
    public static void main(String[] args) {
        inTime();
        tooLate();
        hasAnOrder();
        orderThatWentWrongStays();
        isInABin();
        unknown();
        outside();
        unknownBeforeOutside();
        timePassesFirst();
        Due.end();
    }

    private static void inTime() {
        Due.sentence("then an item is ordered into a bin: 1");
        for (int bin = 0; bin < 4; bin++) {
            GateTimes x = new GateTimes(4);
            x.item(10, 100);
            long last = 10 + 1000L * (bin + 1) - 200;
            Due.due("order into " + bin + " 200 before", x.order(1, bin, last), 1);
            x.step(100_000);
            Due.due("out(0, 1)", x.out(0, 1), bin);
            Due.due("out(0, 2)", x.out(0, 2), last + 200);
        }
        GateTimes x = new GateTimes(2);
        x.item(1_000_000, 5);
        Due.due("order long before the item comes", x.order(1, 1, 0), 1);
        x.step(2_000_000);
        Due.due("out(0, 1)", x.out(0, 1), 1);
    }

    private static void tooLate() {
        Due.sentence("0 when it is .. (without an order) too late for that");
        GateTimes x = new GateTimes(4);
        x.item(10, 100);
        Due.due("order 199 before", x.order(1, 0, 811), 0);
        Due.due("order when the front is there", x.order(1, 0, 1010), 0);
        Due.due("order when it is past", x.order(1, 0, 1500), 0);
        Due.due("order into the next bin, 199 before", x.order(1, 1, 1811), 0);
        Due.due("order into the bin after it", x.order(1, 2, 1811), 1);
        x.step(100_000);
        Due.due("out(0, 1)", x.out(0, 1), 2);
    }

    private static void hasAnOrder() {
        Due.sentence("2 when it has an order (that stays; nothing is too late then)");
        GateTimes x = new GateTimes(4);
        x.item(0, 100);
        Due.due("the order", x.order(1, 2, 0), 1);
        Due.due("another", x.order(1, 1, 0), 2);
        Due.due("the same", x.order(1, 2, 0), 2);
        Due.due("another, too late", x.order(1, 0, 1500), 2);
        Due.due("late(1)", x.late(1), 0);
        Due.due("the same, too late", x.order(1, 2, 2850), 2);
        Due.due("late(1)", x.late(1), 0);
        Due.due("another, in time", x.order(1, 3, 2850), 2);
        x.step(100_000);
        Due.due("out(0, 1)", x.out(0, 1), 2);
    }

    private static void orderThatWentWrongStays() {
        Due.sentence("2 when it has an order (that stays; ..)");
        GateTimes x = new GateTimes(3);
        x.item(0, 100);
        Due.due("the order", x.order(1, 0, 0), 1);
        x.stuck(0, true);
        x.step(1000);
        Due.due("another, when it is past its bin", x.order(1, 2, 1001), 2);
        x.step(100_000);
        Due.due("out(0, 1)", x.out(0, 1), 3);
        Due.due("verify(0, 1)", x.verify(0, 1), 0);
        Due.due("late(1)", x.late(1), 0);
    }

    private static void isInABin() {
        Due.sentence("0 when it is in a bin");
        GateTimes x = new GateTimes(2);
        x.item(0, 100);
        x.item(500, 100);
        x.order(1, 0, 0);
        Due.due("with an order, in its bin at that time", x.order(1, 1, 1000), 0);
        Due.due("without an order, rejected at that time", x.order(2, 1, 3500), 0);
        Due.due("late(1)", x.late(1), 0);
        Due.due("late(2)", x.late(2), 0);
        Due.due("verify(0, 0)", x.verify(0, 0), -1);
        Due.due("in a bin, and no such bin", x.order(1, 2, 3500), GateTimes.UNKNOWN);
        Due.due("in a bin, and below now", x.order(1, 1, 3499), GateTimes.OUTSIDE);
    }

    private static void unknown() {
        Due.sentence("UNKNOWN (an item, a bin)");
        GateTimes x = new GateTimes(2);
        x.item(0, 100);
        int[] items = {0, 2, -1, 401, Integer.MIN_VALUE, Integer.MAX_VALUE};
        for (int item : items) {
            Due.due("order(" + item + ", 0, 5)", x.order(item, 0, 5), GateTimes.UNKNOWN);
        }
        int[] bins = {-1, 2, 3, 12, Integer.MIN_VALUE, Integer.MAX_VALUE};
        for (int bin : bins) {
            Due.due("order(1, " + bin + ", 5)", x.order(1, bin, 5), GateTimes.UNKNOWN);
        }
        Due.due("step(0): no time has passed", x.step(0), 0);
        Due.due("order(1, 1, 0)", x.order(1, 1, 0), 1);
    }

    private static void outside() {
        Due.sentence("Time passes to t (10^9 at most); .. OUTSIDE");
        GateTimes x = new GateTimes(2);
        x.item(0, 100);
        x.step(10);
        long[] times = {9, -1, 1_000_000_001L, Long.MIN_VALUE, Long.MAX_VALUE, (1L << 32) + 20};
        for (long t : times) {
            Due.due("order(1, 0, " + t + ")", x.order(1, 0, t), GateTimes.OUTSIDE);
        }
        Due.due("late(1)", x.late(1), 0);
        Due.due("order(1, 0, 10)", x.order(1, 0, 10), 1);
        Due.due("order(1, 0, 10^9)", x.order(1, 0, 1_000_000_000L), 0);
        Due.due("step(10^9)", x.step(1_000_000_000L), 1);
    }

    private static void unknownBeforeOutside() {
        Due.sentence("UNKNOWN (an item, a bin), OUTSIDE");
        GateTimes x = new GateTimes(2);
        x.item(0, 100);
        Due.due("order(2, 0, -1)", x.order(2, 0, -1), GateTimes.UNKNOWN);
        Due.due("order(1, 2, -1)", x.order(1, 2, -1), GateTimes.UNKNOWN);
    }

    private static void timePassesFirst() {
        Due.sentence("Time passes to t (10^9 at most); then an item is ordered into a bin");
        GateTimes x = new GateTimes(1);
        x.item(0, 100);
        x.item(1200, 100);
        Due.due("order(2, 0, 2000)", x.order(2, 0, 2000), 1);
        Due.due("out(0, 0)", x.out(0, 0), 1);
        Due.due("step(1999)", x.step(1999), GateTimes.OUTSIDE);
        Due.due("it has an order, time passes though", x.order(2, 0, 2100), 2);
        Due.due("step(2099)", x.step(2099), GateTimes.OUTSIDE);
        Due.due("step(2100)", x.step(2100), 1);
    }
}
