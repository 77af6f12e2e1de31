/** Promise 9: by how much an item's order was too late. */
public final class Promise09LateTest {
    public static void main(String[] args) {
        howMuch();
        theLatestOne();
        greatest();
        doNotCount();
        stays();
        unknown();
        Due.end();
    }

    private static void howMuch() {
        Due.sentence("By how much the item's order that came latest too late was so");
        GateTimes x = new GateTimes(3);
        x.item(0, 100);
        x.item(500, 100);
        Due.due("late(1), no order", x.late(1), 0);
        x.order(1, 0, 801);
        Due.due("late(1), 199 before", x.late(1), 1);
        x.order(1, 0, 1000);
        Due.due("late(1), when it is there", x.late(1), 200);
        x.order(1, 0, 1700);
        Due.due("late(1), when it is past", x.late(1), 900);
        Due.due("late(2), another", x.late(2), 0);
    }

    private static void theLatestOne() {
        Due.sentence("the item's order that came latest too late");
        GateTimes x = new GateTimes(3);
        x.item(0, 100);
        x.order(1, 0, 1900);
        Due.due("late(1)", x.late(1), 1100);
        x.order(1, 1, 1900);
        Due.due("late(1), of the one that came after it", x.late(1), 100);
        Due.due("an order in time", x.order(1, 2, 1900), 1);
        Due.due("late(1) stays", x.late(1), 100);
        x.step(100_000);
        Due.due("late(1) stays in the bin", x.late(1), 100);
    }

    private static void greatest() {
        Due.sentence("By how much the item's order that came latest too late was so");
        GateTimes x = new GateTimes(12);
        x.item(0, 100);
        Due.due("order(1, 0, 12_999), a ms before it is rejected", x.order(1, 0, 12_999), 0);
        Due.due("late(1)", x.late(1), 12_199);
        Due.due("order(1, 0, 13_000), rejected", x.order(1, 0, 13_000), 0);
        Due.due("late(1)", x.late(1), 12_199);
    }

    private static void stays() {
        Due.sentence("(.. an order for an item in a bin does not count)");
        GateTimes x = new GateTimes(3);
        x.item(0, 100);
        Due.due("too late", x.order(1, 0, 850), 0);
        Due.due("in time", x.order(1, 1, 850), 1);
        Due.due("it has an order", x.order(1, 0, 1500), 2);
        Due.due("late(1), of the one before its order", x.late(1), 50);
        Due.due("in a bin", x.order(1, 0, 2000), 0);
        Due.due("in a bin, for a bin farther on", x.order(1, 2, 2900), 0);
        Due.due("late(1), of the one before its order", x.late(1), 50);
    }

    private static void doNotCount() {
        Due.sentence("(0: none did; an order for an item in a bin does not count)");
        GateTimes x = new GateTimes(3);
        x.item(0, 100);
        x.item(1000, 100);
        x.order(1, 1, 1800);
        Due.due("an order 200 before is in time", x.late(1), 0);
        x.order(1, 0, 1900);
        Due.due("late(1), it has an order", x.late(1), 0);
        x.order(1, 0, 2000);
        Due.due("late(1), it is in a bin", x.late(1), 0);
        x.order(2, 0, 5000);
        Due.due("late(2), it is rejected", x.late(2), 0);
    }

    private static void unknown() {
        Due.sentence("UNKNOWN");
        GateTimes x = new GateTimes(3);
        x.item(0, 100);
        x.order(1, 0, 900);
        x.order(1, 0, 899);
        x.order(1, 3, 950);
        Due.due("late(1), refused orders do not count", x.late(1), 100);
        int[] items = {0, 2, -1, 401, Integer.MIN_VALUE, Integer.MAX_VALUE};
        for (int item : items) {
            Due.due("late(" + item + ")", x.late(item), GateTimes.UNKNOWN);
        }
    }
}
