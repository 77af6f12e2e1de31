/** Promise 5: what came into bins, in the order of times, at one time by numbers. */
public final class Promise05OutTest {
    public static void main(String[] args) {
        orderOfTimes();
        atOneTimeByNumbers();
        lastTime();
        noneSuch();
        Due.end();
    }

    private static void row(GateTimes x, int i, int item, int bin, int time) {
        Due.due("out(" + i + ", 0)", x.out(i, 0), item);
        Due.due("out(" + i + ", 1)", x.out(i, 1), bin);
        Due.due("out(" + i + ", 2)", x.out(i, 2), time);
    }

    private static void orderOfTimes() {
        Due.sentence("Of the i-th item (0 the first) that came into a bin, in the order of times");
        GateTimes x = new GateTimes(3);
        x.item(0, 100);
        x.item(500, 100);
        x.item(1100, 100);
        x.order(1, 2, 0);
        x.order(2, 0, 0);
        x.step(100_000);
        row(x, 0, 2, 0, 1500);
        row(x, 1, 1, 2, 3000);
        row(x, 2, 3, 3, 5100);
        row(x, 3, -1, -1, -1);
    }

    private static void atOneTimeByNumbers() {
        Due.sentence("at one time by numbers");
        GateTimes x = new GateTimes(3);
        x.item(0, 100);
        x.item(1000, 100);
        x.item(2000, 100);
        x.item(3000, 100);
        x.order(2, 2, 0);
        x.order(3, 1, 0);
        x.order(4, 0, 0);
        x.step(3999);
        row(x, 0, -1, -1, -1);
        x.step(4000);
        row(x, 0, 1, 3, 4000);
        row(x, 1, 2, 2, 4000);
        row(x, 2, 3, 1, 4000);
        row(x, 3, 4, 0, 4000);
    }

    private static void lastTime() {
        Due.sentence("what = .. 2 the time");
        GateTimes x = new GateTimes(1);
        x.item(999_998_000L, 900);
        x.step(999_999_999L);
        row(x, 0, -1, -1, -1);
        x.step(1_000_000_000L);
        row(x, 0, 1, 1, 1_000_000_000);
    }

    private static void noneSuch() {
        Due.sentence("-1 when there is none such");
        GateTimes x = new GateTimes(1);
        row(x, 0, -1, -1, -1);
        x.item(0, 100);
        row(x, 0, -1, -1, -1);
        x.step(2000);
        row(x, 0, 1, 1, 2000);
        row(x, 1, -1, -1, -1);
        row(x, -1, -1, -1, -1);
        row(x, 400, -1, -1, -1);
        row(x, Integer.MIN_VALUE, -1, -1, -1);
        row(x, Integer.MAX_VALUE, -1, -1, -1);
        int[] whats = {-1, 3, Integer.MIN_VALUE, Integer.MAX_VALUE};
        for (int what : whats) {
            Due.due("out(0, " + what + ")", x.out(0, what), -1);
        }
    }
}
