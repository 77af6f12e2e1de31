/** Promise 8: a gate sticks as it stands from now on, or does no more. */
public final class Promise08StuckTest {
    public static void main(String[] args) {
        answers();
        unknown();
        sticksClosed();
        sticksOpen();
        fromNowOn();
        Due.end();
    }

    private static void answers() {
        Due.sentence("1; 0 if it was so.");
        GateTimes x = new GateTimes(2);
        Due.due("stuck(0, false) at first", x.stuck(0, false), 0);
        Due.due("stuck(0, true)", x.stuck(0, true), 1);
        Due.due("stuck(0, true) again", x.stuck(0, true), 0);
        Due.due("stuck(1, true), another", x.stuck(1, true), 1);
        Due.due("stuck(0, false)", x.stuck(0, false), 1);
        Due.due("stuck(0, false) again", x.stuck(0, false), 0);
    }

    private static void unknown() {
        Due.sentence("UNKNOWN");
        for (int gates = 1; gates <= 12; gates++) {
            GateTimes x = new GateTimes(gates);
            int[] others = {-1, gates, gates + 1, 13, Integer.MIN_VALUE, Integer.MAX_VALUE};
            for (int gate : others) {
                String call = gates + " gates: stuck(" + gate;
                Due.due(call + ", true)", x.stuck(gate, true), GateTimes.UNKNOWN);
                Due.due(call + ", false)", x.stuck(gate, false), GateTimes.UNKNOWN);
            }
            Due.due(gates + " gates: stuck(G - 1, true)", x.stuck(gates - 1, true), 1);
        }
    }

    private static void sticksClosed() {
        Due.sentence("A gate sticks as it stands");
        GateTimes x = new GateTimes(2);
        x.item(0, 100);
        x.item(1000, 100);
        x.order(1, 0, 0);
        x.order(2, 0, 0);
        x.stuck(0, true);
        x.step(1999);
        x.stuck(0, false);
        x.step(100_000);
        Due.due("item 1 went past", x.out(1, 1), 2);
        Due.due("item 2 did not", x.out(0, 1), 0);
        Due.due("out(0, 0)", x.out(0, 0), 2);
        Due.due("verify(0, 0)", x.verify(0, 0), 1);
    }

    private static void sticksOpen() {
        Due.sentence("A gate sticks as it stands");
        GateTimes x = new GateTimes(2);
        x.item(0, 100);
        x.item(1000, 100);
        x.item(2000, 100);
        x.order(1, 0, 0);
        x.order(2, 1, 0);
        x.height(0, 1);
        x.step(1000);
        x.stuck(0, true);
        x.step(2000);
        Due.due("item 2 came into bin 0, though it is full", x.out(1, 1), 0);
        x.stuck(0, false);
        x.step(100_000);
        Due.due("item 3 closed the gate", x.out(2, 1), 2);
    }

    private static void fromNowOn() {
        Due.sentence("from now on, or does no more");
        GateTimes x = new GateTimes(1);
        x.item(0, 100);
        x.item(1000, 100);
        x.order(1, 0, 0);
        x.step(1000);
        x.stuck(0, true);
        Due.due("item 1 was in time", x.out(0, 1), 0);
        x.step(1999);
        x.stuck(0, false);
        x.step(2000);
        Due.due("item 2 found the gate able to close and went on", x.out(1, 1), -1);
        x.step(3000);
        Due.due("item 2 is rejected", x.out(1, 1), 1);
    }
}
