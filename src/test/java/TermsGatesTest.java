/** "Terms": gates, which turn or cannot. */
public final class TermsGatesTest {
    private static final long[] GAPS = {50, 198, 199, 200, 201, 900};

    public static void main(String[] args) {
        closedAtFirst();
        openForItsOrder();
        closedOtherwise();
        closedWhenFull();
        stuckGateDoesNotTurn();
        opensBehindAnItem();
        closesBehindAnItem();
        everyItemThereHinders();
        itemsTakenBeforeDoNotHinder();
        firstItemFindsItFree();
        noTurnNoTime();
        staysAsItStands();
        Due.end();
    }

    private static void closedAtFirst() {
        Due.sentence("A gate is CLOSED (at first) or OPEN.");
        GateTimes x = new GateTimes(12);
        for (int g = 0; g < 12; g++) {
            x.stuck(g, true);
        }
        x.item(0, 10);
        x.order(1, 6, 0);
        x.step(100_000);
        Due.due("all stick as at first: out(0, 1)", x.out(0, 1), 12);
    }

    private static void openForItsOrder() {
        Due.sentence("the gate should be open if the item's ORDER is that bin and the bin is not FULL");
        for (int g = 0; g < 12; g++) {
            GateTimes x = new GateTimes(12);
            x.item(0, 10);
            x.order(1, g, 0);
            x.step(100_000);
            Due.due("ordered into " + g, x.out(0, 1), g);
        }
    }

    private static void closedOtherwise() {
        Due.sentence("closed otherwise");
        GateTimes x = new GateTimes(3);
        for (int k = 1; k <= 3; k++) {
            x.item(1000L * k, 10);
        }
        x.order(1, 0, 0);
        x.order(2, 1, 0);
        x.step(100_000);
        Due.due("with an order for another bin", Due.binOf(x, 2), 1);
        Due.due("without an order", Due.binOf(x, 3), 3);
    }

    private static void closedWhenFull() {
        Due.sentence("the bin is not FULL; closed otherwise");
        GateTimes x = new GateTimes(2);
        x.height(0, 1);
        x.item(0, 10);
        x.item(1000, 10);
        x.order(1, 0, 0);
        x.order(2, 0, 0);
        x.step(100_000);
        Due.due("the first fills the bin", Due.binOf(x, 1), 0);
        Due.due("the second closes the gate", Due.binOf(x, 2), 2);
    }

    private static void stuckGateDoesNotTurn() {
        Due.sentence("If it is not so, it TURNS, unless it is STUCK");
        GateTimes closed = new GateTimes(1);
        closed.item(0, 10);
        closed.order(1, 0, 0);
        closed.stuck(0, true);
        closed.step(100_000);
        Due.due("sticks closed", Due.binOf(closed, 1), 1);
        GateTimes open = new GateTimes(1);
        open.item(0, 10);
        open.item(5000, 10);
        open.order(1, 0, 0);
        open.step(1000);
        open.stuck(0, true);
        open.step(100_000);
        Due.due("sticks open", Due.binOf(open, 2), 0);
    }

    private static void opensBehindAnItem() {
        Due.sentence("the end of the item before it there was not 200 at least before this front");
        for (int g = 0; g < 12; g++) {
            for (long gap : GAPS) {
                GateTimes x = new GateTimes(12);
                x.item(0, 100);
                x.item(100 + gap, 10);
                x.order(2, g, 0);
                x.step(100_000);
                Due.due("gate " + g + ", to open " + gap + " behind", Due.binOf(x, 2), gap >= 200 ? g : 12);
            }
        }
    }

    private static void closesBehindAnItem() {
        Due.sentence("the end of the item before it there was not 200 at least before this front");
        for (long gap : GAPS) {
            GateTimes x = new GateTimes(2);
            x.item(0, 100);
            x.item(100 + gap, 10);
            x.order(1, 0, 0);
            x.step(100_000);
            Due.due("to close " + gap + " behind", Due.binOf(x, 2), gap >= 200 ? 2 : 0);
        }
    }

    /** The gate is hindered by the item before, be it that this one turned it or did not. */
    private static void everyItemThereHinders() {
        Due.sentence("the end of the item before it there was not 200 at least before this front");
        GateTimes x = new GateTimes(1);
        x.item(0, 10);
        x.item(160, 10);
        x.item(320, 10);
        x.item(530, 10);
        for (int k = 1; k <= 4; k++) {
            x.order(k, 0, 0);
        }
        x.stuck(0, true);
        x.step(1000);
        x.stuck(0, false);
        x.step(100_000);
        Due.due("150 behind one past a gate that stuck", Due.binOf(x, 2), 1);
        Due.due("150 behind one past a gate that could not turn", Due.binOf(x, 3), 1);
        Due.due("200 behind", Due.binOf(x, 4), 0);
    }

    private static void itemsTakenBeforeDoNotHinder() {
        Due.sentence("the end of the item before it there");
        GateTimes x = new GateTimes(2);
        x.item(0, 10);
        x.item(500, 900);
        x.item(1600, 10);
        x.order(1, 1, 0);
        x.order(2, 0, 0);
        x.step(100_000);
        Due.due("the item before, taken by gate 0", Due.binOf(x, 2), 0);
        Due.due("gate 1 closes behind the one that was there", Due.binOf(x, 3), 2);
    }

    private static void firstItemFindsItFree() {
        Due.sentence("(the first item finds it free)");
        for (int g = 0; g < 12; g++) {
            GateTimes x = new GateTimes(12);
            x.item(0, 900);
            Due.due("the first there, at its least time", x.order(1, g, 0), 1);
            x.step(100_000);
            Due.due("gate " + g + " opens for the first", Due.binOf(x, 1), g);
        }
        GateTimes x = new GateTimes(2);
        x.item(0, 10);
        x.item(210, 10);
        x.order(1, 0, 0);
        x.order(2, 1, 0);
        x.step(100_000);
        Due.due("the second on the belt is the first at gate 1", Due.binOf(x, 2), 1);
    }

    /** A gate that stands as it should need not turn, however near the items are. */
    private static void noTurnNoTime() {
        Due.sentence("If it is not so, it TURNS");
        GateTimes x = new GateTimes(2);
        for (int k = 1; k <= 5; k++) {
            x.item(51L * k, 1);
            x.order(k, 0, 0);
        }
        for (int k = 6; k <= 10; k++) {
            x.item(1000 + 51L * k, 1);
        }
        x.step(100_000);
        Due.due("stays open: count(0)", x.count(0), 5);
        Due.due("stays closed: count(2)", x.count(2), 5);
    }

    private static void staysAsItStands() {
        Due.sentence("Then the item goes into the bin if the gate is open, and on, if it is closed.");
        GateTimes x = new GateTimes(3);
        x.item(0, 100);
        x.item(299, 100);
        x.item(598, 100);
        x.order(1, 0, 0);
        x.order(2, 2, 0);
        x.step(100_000);
        Due.due("into the bin that it should pass", Due.binOf(x, 2), 0);
        Due.due("and the next one, that has no order", Due.binOf(x, 3), 0);
        GateTimes y = new GateTimes(3);
        y.item(0, 100);
        y.item(299, 100);
        y.order(2, 1, 0);
        y.step(100_000);
        Due.due("on past the bin that it should come into", Due.binOf(y, 2), 3);
        Due.due("verify(0, 2)", y.verify(0, 2), 3);
    }
}
