/** "Terms": when a bin is full. */
public final class TermsFullBinsTest {
    public static void main(String[] args) {
        asManyAsItsHeight();
        thousandAtFirst();
        moreThanItsHeight();
        heightBroughtToWhatItHolds();
        exchangedIsNotFull();
        eachBinByItself();
        Due.end();
    }

    /** Items 1, 2, .. far enough apart for every gate to turn, all ordered into one bin. */
    private static GateTimes belt(int items, int bin) {
        GateTimes x = new GateTimes(2);
        for (int k = 1; k <= items; k++) {
            x.item(500L * k, 100);
            x.order(k, bin, 0);
        }
        return x;
    }

    private static void asManyAsItsHeight() {
        Due.sentence("A bin is full when it holds as many as its HEIGHT");
        int[] heights = {1, 2, 5, 19, 20, 21};
        for (int height : heights) {
            GateTimes x = belt(20, 0);
            x.height(0, height);
            x.step(100_000);
            int taken = Math.min(height, 20);
            Due.due("height " + height + ": count(0)", x.count(0), taken);
            Due.due("height " + height + ": count(2)", x.count(2), 20 - taken);
            Due.due("height " + height + ": the last taken", Due.binOf(x, taken), 0);
            Due.due("height " + height + ": swap(0)", x.swap(0), taken);
        }
    }

    private static void thousandAtFirst() {
        Due.sentence("its HEIGHT (1000 at first)");
        GateTimes x = belt(250, 1);
        x.step(1_000_000);
        Due.due("250 into one bin", x.count(1), 250);
        GateTimes y = new GateTimes(12);
        for (int bin = 0; bin < 12; bin++) {
            Due.due("height(" + bin + ", 1)", y.height(bin, 1), 1000);
        }
    }

    /** The gate stuck open lets more in than the height; then the bin is full all the same. */
    private static void moreThanItsHeight() {
        Due.sentence("as many as its HEIGHT (1000 at first) or more");
        GateTimes x = belt(6, 0);
        x.height(0, 2);
        x.step(2000);
        x.stuck(0, true);
        x.step(3000);
        x.stuck(0, false);
        x.step(100_000);
        Due.due("count(0): two, and two by the stuck gate", x.count(0), 4);
        Due.due("item 5 finds it full", Due.binOf(x, 5), 2);
        Due.due("item 6 finds it full", Due.binOf(x, 6), 2);
        Due.due("swap(0)", x.swap(0), 4);
    }

    private static void heightBroughtToWhatItHolds() {
        Due.sentence("A bin is full when it holds as many as its HEIGHT (1000 at first) or more.");
        int[] heights = {1, 2, 3, 4};
        for (int height : heights) {
            GateTimes x = belt(4, 0);
            x.step(2500);
            x.height(0, height);
            x.step(100_000);
            Due.due("height " + height + " when it holds 3: item 4", Due.binOf(x, 4), height <= 3 ? 2 : 0);
        }
        GateTimes x = belt(4, 0);
        x.height(0, 3);
        x.step(2500);
        x.height(0, 4);
        x.step(100_000);
        Due.due("full no more when it is higher: item 4", Due.binOf(x, 4), 0);
    }

    private static void exchangedIsNotFull() {
        Due.sentence("A bin is full when it holds as many as its HEIGHT");
        GateTimes x = belt(4, 0);
        x.height(0, 1);
        x.step(1500);
        x.swap(0);
        x.step(2000);
        Due.due("item 2 into the fresh bin", Due.binOf(x, 2), 0);
        x.step(2500);
        x.swap(0);
        x.step(100_000);
        Due.due("item 3 found it full", Due.binOf(x, 3), 2);
        Due.due("item 4 into the fresh bin", Due.binOf(x, 4), 0);
    }

    private static void eachBinByItself() {
        Due.sentence("A bin is full when it holds as many as its HEIGHT");
        GateTimes x = new GateTimes(2);
        x.height(0, 1);
        for (int k = 1; k <= 4; k++) {
            x.item(500L * k, 100);
            x.order(k, k % 2, 0);
        }
        x.step(100_000);
        Due.due("count(0), of height 1", x.count(0), 1);
        Due.due("count(1)", x.count(1), 2);
        Due.due("count(2)", x.count(2), 1);
    }
}
