/** "Terms": items, and when they are where. */
public final class TermsItemsTest {
    public static void main(String[] args) {
        fourHundred();
        inTheirOrder();
        frontAtEachGate();
        endBehindTheFront();
        rejectedBehindTheLastGate();
        Due.end();
    }

    private static void fourHundred() {
        Due.sentence("ITEMS 1, 2, .. (400 at most)");
        GateTimes x = new GateTimes(12);
        for (int k = 1; k <= 399; k++) {
            Due.due("item " + k, x.item(51L * k, 1), k);
        }
        Due.due("item 400", x.item(20_600, 1), 400);
        Due.due("item 401", x.item(20_651, 1), GateTimes.ROOM);
        Due.due("late(400)", x.late(400), 0);
        Due.due("late(401)", x.late(401), GateTimes.UNKNOWN);
        Due.due("order(400, 11, 0)", x.order(400, 11, 0), 1);
        Due.due("order(401, 11, 0)", x.order(401, 11, 0), GateTimes.UNKNOWN);
        Due.due("step over all 400", x.step(1_000_000), 400);
        Due.due("item 401, when the belt is empty", x.item(1_000_000, 1), GateTimes.ROOM);
        // Item 400 leaves at gate 11, when those less than 1000 before it are not rejected yet.
        int[] at = {0, 383, 384, 385, 399};
        int[] items = {1, 384, 400, 385, 399};
        for (int k = 0; k < at.length; k++) {
            Due.due("out(" + at[k] + ", 0)", x.out(at[k], 0), items[k]);
        }
        Due.due("out(400, 0)", x.out(400, 0), -1);
    }

    private static void inTheirOrder() {
        Due.sentence("come at a time, in their order");
        GateTimes x = new GateTimes(1);
        Due.due("item(5000, 10)", x.item(5000, 10), 1);
        Due.due("item(3000, 10), before it", x.item(3000, 10), GateTimes.OUTSIDE);
        Due.due("item(7000, 10)", x.item(7000, 10), 2);
        Due.due("item(6000, 10), between them", x.item(6000, 10), GateTimes.OUTSIDE);
        Due.due("step(6999)", x.step(6999), 0);
        Due.due("step(7000)", x.step(7000), 1);
        Due.due("step(8999)", x.step(8999), 0);
        Due.due("step(9000)", x.step(9000), 1);
    }

    private static void frontAtEachGate() {
        Due.sentence("an item's front is at gate g 1000 (g + 1) behind that time");
        for (int g = 0; g < 12; g++) {
            GateTimes x = new GateTimes(12);
            x.item(37, 100);
            x.order(1, g, 0);
            long front = 37 + 1000L * (g + 1);
            Due.due("step to the ms before gate " + g, x.step(front - 1), 0);
            Due.due("step to gate " + g, x.step(front), 1);
            Due.due("out(0, 1)", x.out(0, 1), g);
            Due.due("out(0, 2)", x.out(0, 2), front);
        }
    }

    private static void endBehindTheFront() {
        Due.sentence("its end LENGTH later");
        long[] lengths = {1, 2, 137, 899, 900};
        for (long length : lengths) {
            for (int g = 0; g < 3; g++) {
                Due.due("length " + length + ", gate " + g + ": 200 behind the end",
                    binOfSecond(length, length + 200, g), g);
                Due.due("length " + length + ", gate " + g + ": 199 behind the end",
                    binOfSecond(length, length + 199, g), 3);
            }
        }
    }

    /** The bin into which an item comes that wants gate g open behind one that wants all closed. */
    private static int binOfSecond(long length, long at, int g) {
        GateTimes x = new GateTimes(3);
        x.item(0, length);
        x.item(at, 10);
        x.order(2, g, 0);
        x.step(100_000);
        return Due.binOf(x, 2);
    }

    private static void rejectedBehindTheLastGate() {
        Due.sentence("behind the last gate it is REJECTED (in bin G) when its front would be at gate G");
        for (int gates = 1; gates <= 12; gates++) {
            GateTimes x = new GateTimes(gates);
            x.item(5, 900);
            long end = 5 + 1000L * (gates + 1);
            Due.due(gates + " gates: step before the end", x.step(end - 1), 0);
            Due.due(gates + " gates: count(G) before the end", x.count(gates), 0);
            Due.due(gates + " gates: step to the end", x.step(end), 1);
            Due.due(gates + " gates: count(G)", x.count(gates), 1);
            Due.due(gates + " gates: out(0, 1)", x.out(0, 1), gates);
            Due.due(gates + " gates: out(0, 2)", x.out(0, 2), end);
        }
    }
}
