/** Promise 6: a bin's height. */
public final class Promise06HeightTest {
    public static void main(String[] args) {
        answersThatBefore();
        edges();
        lowerThanItHolds();
        unknown();
        refusals();
        fullBinIsPassed();
        Due.end();
    }

    private static void answersThatBefore() {
        Due.sentence("A bin's HEIGHT: that before");
        GateTimes x = new GateTimes(3);
        Due.due("height(0, 1)", x.height(0, 1), 1000);
        Due.due("height(0, 1000)", x.height(0, 1000), 1);
        Due.due("height(0, 7)", x.height(0, 7), 1000);
        Due.due("height(2, 8)", x.height(2, 8), 1000);
        Due.due("height(0, 7)", x.height(0, 7), 7);
        Due.due("height(2, 9)", x.height(2, 9), 8);
        Due.due("height(1, 9)", x.height(1, 9), 1000);
    }

    private static void edges() {
        Due.sentence("OUTSIDE (not 1 .. 1000)");
        for (int bin = 0; bin < 12; bin++) {
            GateTimes x = new GateTimes(12);
            Due.due("height(" + bin + ", 0)", x.height(bin, 0), GateTimes.OUTSIDE);
            Due.due("height(" + bin + ", 1)", x.height(bin, 1), 1000);
            Due.due("height(" + bin + ", 1001)", x.height(bin, 1001), GateTimes.OUTSIDE);
            Due.due("height(" + bin + ", 1000)", x.height(bin, 1000), 1);
        }
    }

    private static void lowerThanItHolds() {
        Due.sentence("A bin's HEIGHT: that before");
        GateTimes x = new GateTimes(1);
        x.item(0, 10);
        x.item(100, 10);
        x.order(1, 0, 0);
        x.order(2, 0, 0);
        x.step(100_000);
        Due.due("height(0, 1) when it holds 2", x.height(0, 1), 1000);
        Due.due("height(0, 2) when it holds 2", x.height(0, 2), 1);
        Due.due("swap(0): it holds them yet", x.swap(0), 2);
        Due.due("height(0, 3) after a swap", x.height(0, 3), 2);
    }

    private static void unknown() {
        Due.sentence("UNKNOWN (0 .. G - 1)");
        for (int gates = 1; gates <= 12; gates++) {
            GateTimes x = new GateTimes(gates);
            Due.due(gates + " gates: height(-1, 5)", x.height(-1, 5), GateTimes.UNKNOWN);
            Due.due(gates + " gates: height(G, 5)", x.height(gates, 5), GateTimes.UNKNOWN);
            Due.due(gates + " gates: height(0, 5)", x.height(0, 5), 1000);
            Due.due(gates + " gates: height(G - 1, 5)", x.height(gates - 1, 5), gates == 1 ? 5 : 1000);
        }
    }

    private static void refusals() {
        Due.sentence("UNKNOWN (0 .. G - 1), OUTSIDE (not 1 .. 1000)");
        GateTimes x = new GateTimes(3);
        int[] bins = {-1, 3, 4, Integer.MIN_VALUE, Integer.MAX_VALUE};
        for (int bin : bins) {
            Due.due("height(" + bin + ", 5)", x.height(bin, 5), GateTimes.UNKNOWN);
            Due.due("height(" + bin + ", 0)", x.height(bin, 0), GateTimes.UNKNOWN);
        }
        int[] heights = {0, -1, 1001, Integer.MIN_VALUE, Integer.MAX_VALUE};
        for (int n : heights) {
            Due.due("height(2, " + n + ")", x.height(2, n), GateTimes.OUTSIDE);
        }
        Due.due("height(2, 5) after refusals", x.height(2, 5), 1000);
    }

    private static void fullBinIsPassed() {
        Due.sentence("A bin's HEIGHT");
        GateTimes x = new GateTimes(2);
        x.height(0, 2);
        for (int k = 1; k <= 4; k++) {
            x.item(500L * k, 100);
            x.order(k, 0, 0);
        }
        x.step(2500);
        Due.due("count(0) when it is full", x.count(0), 2);
        Due.due("height(0, 3)", x.height(0, 3), 2);
        x.step(100_000);
        Due.due("count(0)", x.count(0), 3);
        Due.due("count(2)", x.count(2), 1);
        Due.due("swap(0)", x.swap(0), 3);
    }
}
