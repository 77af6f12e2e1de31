/** Promise 7: a bin is exchanged. */
public final class Promise07SwapTest {
    public static void main(String[] args) {
        howManyItHeld();
        emptyBin();
        moreThanItsHeight();
        whatStays();
        unknown();
        Due.end();
    }

    private static void howManyItHeld() {
        Due.sentence("A bin is exchanged: how many it held; it holds none.");
        GateTimes x = new GateTimes(2);
        x.height(1, 2);
        for (int k = 1; k <= 8; k++) {
            x.item(500L * k, 100);
            x.order(k, 1, 0);
        }
        x.step(3500);
        Due.due("out(2, 1): none is past the full bin yet", x.out(2, 1), -1);
        Due.due("swap(1)", x.swap(1), 2);
        Due.due("swap(1) again", x.swap(1), 0);
        x.step(4500);
        Due.due("count(1) after the swap", x.count(1), 4);
        x.step(5500);
        Due.due("count(1), full again", x.count(1), 4);
        Due.due("swap(0) holds none of bin 1", x.swap(0), 0);
        Due.due("swap(1)", x.swap(1), 2);
        x.step(100_000);
        Due.due("count(1) in all", x.count(1), 5);
        Due.due("swap(1)", x.swap(1), 1);
        Due.due("count(2): the rejected ones", x.count(2), 3);
    }

    private static void emptyBin() {
        Due.sentence("how many it held");
        GateTimes x = new GateTimes(12);
        for (int bin = 0; bin < 12; bin++) {
            Due.due("swap(" + bin + ") of none", x.swap(bin), 0);
            Due.due("swap(" + bin + ") of none again", x.swap(bin), 0);
        }
        x.item(0, 10);
        x.order(1, 0, 0);
        x.step(999);
        Due.due("swap(0) a ms before the item", x.swap(0), 0);
        x.step(1000);
        Due.due("swap(0) at the item's time", x.swap(0), 1);
    }

    private static void moreThanItsHeight() {
        Due.sentence("how many it held");
        GateTimes x = new GateTimes(1);
        x.height(0, 1);
        for (int k = 1; k <= 5; k++) {
            x.item(51L * k, 1);
        }
        x.order(1, 0, 0);
        x.step(100_000);
        Due.due("swap(0): the gate could not close", x.swap(0), 5);
        Due.due("swap(0) again", x.swap(0), 0);
    }

    private static void whatStays() {
        Due.sentence("A bin is exchanged");
        GateTimes x = new GateTimes(2);
        x.item(0, 10);
        x.item(100, 10);
        x.order(1, 0, 0);
        x.order(2, 1, 0);
        x.height(0, 7);
        x.step(1100);
        x.stuck(0, true);
        Due.due("swap(0)", x.swap(0), 2);
        Due.due("count(0) stays", x.count(0), 2);
        Due.due("height(0, 7) stays", x.height(0, 7), 7);
        Due.due("stuck(0, true) stays", x.stuck(0, true), 0);
        Due.due("out(1, 0) stays", x.out(1, 0), 2);
        Due.due("verify(0, 0) stays", x.verify(0, 0), 2);
        Due.due("step(1100): it came before the swap", x.step(1100), 0);
        x.item(2000, 10);
        x.step(3000);
        Due.due("the gate still stands open", x.out(2, 1), 0);
    }

    private static void unknown() {
        Due.sentence("UNKNOWN");
        for (int gates = 1; gates <= 12; gates++) {
            GateTimes x = new GateTimes(gates);
            x.item(0, 10);
            x.step(100_000);
            int[] bins = {-1, gates, gates + 1, 13, Integer.MIN_VALUE, Integer.MAX_VALUE};
            for (int bin : bins) {
                Due.due(gates + " gates: swap(" + bin + ")", x.swap(bin), GateTimes.UNKNOWN);
            }
            Due.due(gates + " gates: swap(G - 1)", x.swap(gates - 1), 0);
            Due.due(gates + " gates: count(G): the rejected one stays", x.count(gates), 1);
        }
    }
}
