/** "Terms": orders, and by when they must come. */
public final class TermsOrdersTest {
    public static void main(String[] args) {
        binsOfOrders();
        twoHundredBefore();
        Due.end();
    }

    private static void binsOfOrders() {
        Due.sentence("An ORDER is for a bin 0 .. G - 1");
        for (int gates = 1; gates <= 12; gates++) {
            GateTimes x = new GateTimes(gates);
            x.item(0, 10);
            x.item(1000, 10);
            Due.due(gates + " gates: order(1, -1, 0)", x.order(1, -1, 0), GateTimes.UNKNOWN);
            Due.due(gates + " gates: order(1, G, 0)", x.order(1, gates, 0), GateTimes.UNKNOWN);
            Due.due(gates + " gates: order(1, 0, 0)", x.order(1, 0, 0), 1);
            Due.due(gates + " gates: order(2, G - 1, 0)", x.order(2, gates - 1, 0), 1);
        }
    }

    private static void twoHundredBefore() {
        Due.sentence("it must come 200 at least before the front is at that gate");
        for (int bin = 0; bin < 12; bin++) {
            for (long before = 198; before <= 202; before++) {
                GateTimes x = new GateTimes(12);
                x.item(17, 10);
                long front = 17 + 1000L * (bin + 1);
                boolean inTime = before >= 200;
                Due.due("into " + bin + ", " + before + " before",
                    x.order(1, bin, front - before), inTime ? 1 : 0);
                Due.due("late(1)", x.late(1), inTime ? 0 : 200 - before);
                x.step(100_000);
                Due.due("out(0, 1)", x.out(0, 1), inTime ? bin : 12);
            }
        }
    }
}
