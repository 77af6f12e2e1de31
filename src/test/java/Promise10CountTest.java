/** Promise 10: how many items came into a bin, or were rejected, in all. */
public final class Promise10CountTest {
    public static void main(String[] args) {
        GateTimes x = new GateTimes(3);
        for (int k = 1; k <= 10; k++) {
            x.item(1000L * k, 100);
        }
        for (int k = 1; k <= 6; k++) {
            x.order(k, k <= 1 ? 0 : k <= 3 ? 1 : 2, 0);
        }
        for (int bin = 0; bin <= 3; bin++) {
            Due.due("count(" + bin + ") at first", x.count(bin), 0);
        }
        x.step(1999);
        Due.due("count(0) before the front is there", x.count(0), 0);
        x.step(2000);
        Due.due("count(0) when it is", x.count(0), 1);
        x.step(100_000);
        Due.due("count(0)", x.count(0), 1);
        Due.due("count(1)", x.count(1), 2);
        Due.due("count(2)", x.count(2), 3);
        Due.due("count(3), the rejected", x.count(3), 4);
        x.swap(2);
        Due.due("count(2) after a swap", x.count(2), 3);
        int[] bins = {-1, 4, 5, 12, 13, Integer.MIN_VALUE, Integer.MAX_VALUE};
        for (int bin : bins) {
            Due.due("count(" + bin + ")", x.count(bin), GateTimes.UNKNOWN);
        }
        Due.end();
    }
}
