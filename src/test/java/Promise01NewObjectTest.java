/** Promise 1: so many gates, brought to 1 .. 12; no items. */
public final class Promise01NewObjectTest {
    public static void main(String[] args) {
        gatesAre(Integer.MIN_VALUE, 1);
        gatesAre(-1, 1);
        gatesAre(0, 1);
        gatesAre(1, 1);
        gatesAre(2, 2);
        gatesAre(7, 7);
        gatesAre(11, 11);
        gatesAre(12, 12);
        gatesAre(13, 12);
        gatesAre(Integer.MAX_VALUE, 12);
        startsEmpty();
        objectsAreApart();
        Due.end();
    }

    private static void gatesAre(int asked, int due) {
        Due.sentence("So many gates, brought to 1 .. 12");
        GateTimes x = new GateTimes(asked);
        for (int bin = 0; bin < due; bin++) {
            Due.due("gates " + asked + ": height(" + bin + ", 1000)", x.height(bin, 1000), 1000);
            Due.due("gates " + asked + ": swap(" + bin + ")", x.swap(bin), 0);
            Due.due("gates " + asked + ": count(" + bin + ")", x.count(bin), 0);
            Due.due("gates " + asked + ": stuck(" + bin + ", false)", x.stuck(bin, false), 0);
        }
        Due.due("gates " + asked + ": height(G, 5)", x.height(due, 5), GateTimes.UNKNOWN);
        Due.due("gates " + asked + ": stuck(G, true)", x.stuck(due, true), GateTimes.UNKNOWN);
        Due.due("gates " + asked + ": count(G)", x.count(due), 0);
        Due.due("gates " + asked + ": count(G + 1)", x.count(due + 1), GateTimes.UNKNOWN);
        Due.due("gates " + asked + ": item(0, 10)", x.item(0, 10), 1);
        Due.due("gates " + asked + ": step before the end", x.step(1000L * (due + 1) - 1), 0);
        Due.due("gates " + asked + ": step at the end", x.step(1000L * (due + 1)), 1);
        Due.due("gates " + asked + ": out(0, 1)", x.out(0, 1), due);
    }

    private static void startsEmpty() {
        Due.sentence("no items");
        GateTimes x = new GateTimes(3);
        Due.due("new: late(0)", x.late(0), GateTimes.UNKNOWN);
        Due.due("new: late(1)", x.late(1), GateTimes.UNKNOWN);
        Due.due("new: out(0, 0)", x.out(0, 0), -1);
        Due.due("new: verify(0, 0)", x.verify(0, 0), -1);
        Due.due("new: order(1, 0, 0)", x.order(1, 0, 0), GateTimes.UNKNOWN);
        Due.due("new: step(0), as time is 0 at first", x.step(0), 0);
        Due.due("new: step(-1)", x.step(-1), GateTimes.OUTSIDE);
    }

    private static void objectsAreApart() {
        Due.sentence("no items");
        GateTimes x = new GateTimes(2);
        GateTimes y = new GateTimes(2);
        x.item(0, 10);
        x.stuck(0, true);
        x.step(5000);
        Due.due("another: item(0, 10)", y.item(0, 10), 1);
        Due.due("another: stuck(0, true)", y.stuck(0, true), 1);
        Due.due("another: count(2)", y.count(2), 0);
    }
}
