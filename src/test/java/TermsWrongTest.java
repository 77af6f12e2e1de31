/** "Terms": which items came wrong. */
public final class TermsWrongTest {
    public static void main(String[] args) {
        anotherBin();
        itsBin();
        withoutAnOrder();
        rejected();
        Due.end();
    }

    private static void anotherBin() {
        Due.sentence("WRONG are items that came into another bin than their order says");
        GateTimes x = new GateTimes(3);
        x.item(0, 10);
        x.item(100, 10);
        x.order(1, 0, 0);
        x.order(2, 2, 0);
        x.step(1099);
        Due.due("item 2, not in a bin yet", x.verify(0, 0), -1);
        x.step(1100);
        Due.due("verify(0, 0)", x.verify(0, 0), 2);
        Due.due("verify(0, 1)", x.verify(0, 1), 2);
        Due.due("verify(0, 2)", x.verify(0, 2), 0);
        Due.due("verify(1, 0)", x.verify(1, 0), -1);
    }

    private static void itsBin() {
        Due.sentence("WRONG are items that came into another bin than their order says");
        for (int bin = 0; bin < 12; bin++) {
            GateTimes x = new GateTimes(12);
            x.item(0, 10);
            x.order(1, bin, 0);
            x.step(100_000);
            Due.due("ordered into " + bin + ", came there", x.verify(0, 0), -1);
        }
    }

    private static void withoutAnOrder() {
        Due.sentence("(items with an order alone, ..)");
        GateTimes x = new GateTimes(2);
        x.item(0, 10);
        x.item(100, 10);
        x.item(2000, 10);
        x.item(4000, 10);
        x.order(1, 0, 0);
        Due.due("too late to be an order", x.order(4, 0, 4900), 0);
        x.step(100_000);
        Due.due("item 2 came into a bin", Due.binOf(x, 2), 0);
        Due.due("item 3 is rejected", Due.binOf(x, 3), 2);
        Due.due("item 4 is rejected", Due.binOf(x, 4), 2);
        Due.due("none is wrong", x.verify(0, 0), -1);
    }

    private static void rejected() {
        Due.sentence("rejected ones too");
        GateTimes x = new GateTimes(2);
        x.item(0, 10);
        x.item(1000, 10);
        x.order(1, 1, 0);
        x.order(2, 1, 0);
        x.height(1, 1);
        x.step(3999);
        Due.due("item 2, not rejected yet", x.verify(0, 0), -1);
        x.step(4000);
        Due.due("verify(0, 0)", x.verify(0, 0), 2);
        Due.due("verify(0, 1)", x.verify(0, 1), 1);
        Due.due("verify(0, 2)", x.verify(0, 2), 2);
        Due.due("verify(1, 0)", x.verify(1, 0), -1);
    }
}
