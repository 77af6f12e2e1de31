/** "Terms": time, and the calls that let it pass. */
public final class TermsTimeTest {
    public static void main(String[] args) {
        zeroAtFirst();
        notBelowTheTimeOfAStep();
        notBelowTheTimeOfAnOrder();
        callsWithoutATime();
        Due.end();
    }

    private static void zeroAtFirst() {
        Due.sentence("TIME is in milliseconds, 0 at first");
        GateTimes x = new GateTimes(2);
        Due.due("step(-1)", x.step(-1), GateTimes.OUTSIDE);
        Due.due("item(-1, 5)", x.item(-1, 5), GateTimes.OUTSIDE);
        Due.due("item(0, 5)", x.item(0, 5), 1);
        Due.due("order(1, 0, -1)", x.order(1, 0, -1), GateTimes.OUTSIDE);
        Due.due("order(1, 0, 0)", x.order(1, 0, 0), 1);
        Due.due("step(0)", x.step(0), 0);
    }

    private static void notBelowTheTimeOfAStep() {
        Due.sentence("each call with a t lets it PASS to t (t is not below it, else OUTSIDE)");
        GateTimes x = new GateTimes(2);
        x.item(0, 5);
        Due.due("step(700)", x.step(700), 0);
        Due.due("step(699) at 700", x.step(699), GateTimes.OUTSIDE);
        Due.due("step(0) at 700", x.step(0), GateTimes.OUTSIDE);
        Due.due("step(least) at 700", x.step(Long.MIN_VALUE), GateTimes.OUTSIDE);
        Due.due("order(1, 1, 699) at 700", x.order(1, 1, 699), GateTimes.OUTSIDE);
        Due.due("order(1, 1, least) at 700", x.order(1, 1, Long.MIN_VALUE), GateTimes.OUTSIDE);
        Due.due("step(700) at 700", x.step(700), 0);
        Due.due("order(1, 1, 700) at 700", x.order(1, 1, 700), 1);
    }

    /** Whatever an order answers that is not refused, time has passed. */
    private static void notBelowTheTimeOfAnOrder() {
        Due.sentence("each call with a t lets it PASS to t (t is not below it, else OUTSIDE)");
        GateTimes x = new GateTimes(2);
        x.item(0, 5);
        Due.due("order(1, 0, 900), too late", x.order(1, 0, 900), 0);
        timeIs(x, 900);
        Due.due("order(1, 1, 950), in time", x.order(1, 1, 950), 1);
        timeIs(x, 950);
        Due.due("order(1, 1, 1960), it has an order", x.order(1, 1, 1960), 2);
        timeIs(x, 1960);
        Due.due("order(1, 1, 2000), it is in a bin", x.order(1, 1, 2000), 0);
        timeIs(x, 2000);
        Due.due("order(1, 1, 2500), it was in a bin", x.order(1, 1, 2500), 0);
        timeIs(x, 2500);
    }

    private static void callsWithoutATime() {
        Due.sentence("each call with a t lets it PASS to t (t is not below it, else OUTSIDE)");
        GateTimes x = new GateTimes(2);
        x.item(5000, 5);
        x.out(0, 0);
        x.height(0, 7);
        x.swap(0);
        x.stuck(0, true);
        x.late(1);
        x.count(0);
        x.verify(0, 0);
        Due.due("step(0) after calls without a t", x.step(0), 0);
    }

    private static void timeIs(GateTimes x, long now) {
        Due.due("step(" + (now - 1) + ") at " + now, x.step(now - 1), GateTimes.OUTSIDE);
        Due.due("item(" + (now - 1) + ", 5) at " + now, x.item(now - 1, 5), GateTimes.OUTSIDE);
        x.step(now);
    }
}
