/** Promise 7: a bin is exchanged. */
public final class Promise07SwapTest {
    public static void main(String[] args) {
        GateTimes x = new GateTimes(2);
        Due.due("swap(0) of none", x.swap(0), 0);
        x.height(1, 2);
        for (int k = 1; k <= 8; k++) {
            x.item(500L * k, 100);
            x.order(k, 1, 0);
        }
        x.step(3500);
        Due.due("out(2, 1): none is past the full bin yet", x.out(2, 1), -1);
        Due.due("swap(1)", x.swap(1), 2);
        Due.due("swap(1) again", x.swap(1), 0);
        Due.due("count(1) stays", x.count(1), 2);
        x.step(4500);
        Due.due("count(1) after the swap", x.count(1), 4);
        x.step(5500);
        Due.due("count(1), full again", x.count(1), 4);
        Due.due("swap(0) holds none of bin 1", x.swap(0), 0);
        Due.due("swap(1)", x.swap(1), 2);
        x.step(100_000);
        Due.due("count(1) in all", x.count(1), 5);
        Due.due("swap(1)", x.swap(1), 1);
        Due.due("height(1, 2) stays", x.height(1, 2), 2);
        int[] bins = {-1, 2, 3, Integer.MIN_VALUE, Integer.MAX_VALUE};
        for (int bin : bins) {
            Due.due("swap(" + bin + ")", x.swap(bin), GateTimes.UNKNOWN);
        }
        Due.due("count(2): the rejected ones stay", x.count(2), 3);
        Due.end();
    }
}
