/** Promise 11: what came wrong, in the order of out. */
public final class Promise11VerifyTest {
    public static void main(String[] args) {
        inTheOrderOfOut();
        atOneTimeByNumbers();
        noneSuch();
        Due.end();
    }

    private static void row(GateTimes x, int i, int item, int order, int bin) {
        Due.due("verify(" + i + ", 0)", x.verify(i, 0), item);
        Due.due("verify(" + i + ", 1)", x.verify(i, 1), order);
        Due.due("verify(" + i + ", 2)", x.verify(i, 2), bin);
    }

    private static void inTheOrderOfOut() {
        Due.sentence("Of the i-th item (0 the first) that came WRONG, in the order of out");
        GateTimes x = new GateTimes(3);
        x.item(0, 100);
        x.item(500, 100);
        x.item(650, 100);
        x.item(800, 100);
        x.item(1500, 100);
        x.order(1, 2, 0);
        x.order(2, 0, 0);
        x.order(3, 1, 0);
        x.order(5, 1, 0);
        x.stuck(2, true);
        x.step(1649);
        row(x, 0, -1, -1, -1);
        x.step(1650);
        row(x, 0, 3, 1, 0);
        row(x, 1, -1, -1, -1);
        x.step(100_000);
        row(x, 0, 3, 1, 0);
        row(x, 1, 1, 2, 3);
        row(x, 2, -1, -1, -1);
        Due.due("count(0): item 4 has no order and is not wrong", x.count(0), 3);
        Due.due("count(1): item 5 is right", x.count(1), 1);
    }

    private static void atOneTimeByNumbers() {
        Due.sentence("in the order of out");
        GateTimes x = new GateTimes(2);
        x.item(0, 100);
        x.item(1000, 100);
        x.item(1500, 100);
        x.item(2000, 100);
        x.order(1, 0, 0);
        x.order(2, 1, 0);
        x.order(3, 0, 0);
        x.order(4, 1, 0);
        x.stuck(0, true);
        x.stuck(1, true);
        x.step(1999);
        x.stuck(0, false);
        x.step(2500);
        x.stuck(0, true);
        x.step(3000);
        row(x, 0, 1, 0, 2);
        row(x, 1, 4, 1, 0);
        row(x, 2, -1, -1, -1);
        x.step(4000);
        row(x, 2, 2, 1, 2);
        row(x, 3, -1, -1, -1);
    }

    private static void noneSuch() {
        Due.sentence("-1 when there is none such");
        GateTimes x = new GateTimes(1);
        row(x, 0, -1, -1, -1);
        x.item(0, 100);
        x.order(1, 0, 0);
        x.stuck(0, true);
        x.step(2000);
        row(x, 0, 1, 0, 1);
        row(x, 1, -1, -1, -1);
        row(x, -1, -1, -1, -1);
        row(x, 400, -1, -1, -1);
        row(x, Integer.MIN_VALUE, -1, -1, -1);
        row(x, Integer.MAX_VALUE, -1, -1, -1);
        int[] whats = {-1, 3, Integer.MIN_VALUE, Integer.MAX_VALUE};
        for (int what : whats) {
            Due.due("verify(0, " + what + ")", x.verify(0, what), -1);
        }
    }
}
