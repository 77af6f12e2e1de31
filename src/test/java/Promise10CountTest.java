/** Promise 10: how many items came into a bin, or were rejected, in all. */
public final class Promise10CountTest {
    public static void main(String[] args) {
        inAll();
        fromTheTimeOfTheFront();
        afterSwaps();
        unknown();
        Due.end();
    }

    private static void inAll() {
        Due.sentence("How many items came into a bin (G: were rejected) in all");
        GateTimes x = new GateTimes(3);
        for (int k = 1; k <= 10; k++) {
            x.item(1000L * k, 100);
        }
        for (int k = 1; k <= 6; k++) {
            x.order(k, k <= 1 ? 0 : k <= 3 ? 1 : 2, 0);
        }
        for (int bin = 0; bin <= 3; bin++) {
            Due.due("count(" + bin + ") at first", x.count(bin), 0);
        }
        x.step(100_000);
        for (int bin = 0; bin < 3; bin++) {
            Due.due("count(" + bin + ")", x.count(bin), bin + 1);
        }
        Due.due("count(3), the rejected", x.count(3), 4);
    }

    private static void fromTheTimeOfTheFront() {
        Due.sentence("How many items came into a bin (G: were rejected) in all");
        GateTimes x = new GateTimes(2);
        x.item(0, 100);
        x.item(500, 100);
        x.order(1, 0, 0);
        x.step(999);
        Due.due("count(0) before the front is there", x.count(0), 0);
        x.step(1000);
        Due.due("count(0) when it is", x.count(0), 1);
        x.step(3499);
        Due.due("count(2) before the front would be there", x.count(2), 0);
        x.order(1, 0, 3500);
        Due.due("count(2) when it would be, in an order's time", x.count(2), 1);
    }

    private static void afterSwaps() {
        Due.sentence("in all");
        GateTimes x = new GateTimes(2);
        for (int k = 1; k <= 6; k++) {
            x.item(1000L * k, 100);
            x.order(k, 1, 0);
        }
        for (int k = 1; k <= 6; k++) {
            x.step(1000L * k + 2000);
            x.swap(1);
            Due.due("count(1) after swap " + k, x.count(1), k);
        }
        GateTimes all = new GateTimes(12);
        for (int k = 1; k <= 400; k++) {
            all.item(51L * k, 1);
        }
        all.step(1_000_000);
        Due.due("count(12) of 400", all.count(12), 400);
    }

    private static void unknown() {
        Due.sentence("UNKNOWN (0 .. G)");
        for (int gates = 1; gates <= 12; gates++) {
            GateTimes x = new GateTimes(gates);
            for (int bin = 0; bin <= gates; bin++) {
                Due.due(gates + " gates: count(" + bin + ")", x.count(bin), 0);
            }
            int[] bins = {-1, gates + 1, gates + 2, 14, Integer.MIN_VALUE, Integer.MAX_VALUE};
            for (int bin : bins) {
                Due.due(gates + " gates: count(" + bin + ")", x.count(bin), GateTimes.UNKNOWN);
            }
        }
    }
}
