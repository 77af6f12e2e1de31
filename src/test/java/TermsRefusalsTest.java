import java.util.Random;

/** "Terms": which refusal is answered, and that it changes nothing. */
public final class TermsRefusalsTest {
    private static final long TOO_GREAT = 1_000_000_001L;

    public static void main(String[] args) {
        unknownBeforeOutside();
        outsideBeforeRoom();
        refusedItem();
        refusedForRoom();
        refusedOrder();
        refusedStep();
        refusedHeight();
        refusedSwapAndStuck();
        letsNoTimePass();
        betweenAllOtherCalls();
        Due.end();
    }

    private static void unknownBeforeOutside() {
        Due.sentence("of several the first one here: UNKNOWN .., OUTSIDE ..");
        GateTimes x = new GateTimes(2);
        x.item(0, 10);
        x.step(100);
        long[] times = {99, -1, TOO_GREAT, Long.MIN_VALUE, Long.MAX_VALUE};
        for (long t : times) {
            Due.due("order(2, 0, " + t + "), no such item", x.order(2, 0, t), GateTimes.UNKNOWN);
            Due.due("order(0, 0, " + t + "), no such item", x.order(0, 0, t), GateTimes.UNKNOWN);
            Due.due("order(1, 2, " + t + "), no such bin", x.order(1, 2, t), GateTimes.UNKNOWN);
            Due.due("order(1, -1, " + t + "), no such bin", x.order(1, -1, t), GateTimes.UNKNOWN);
            Due.due("order(1, 0, " + t + ")", x.order(1, 0, t), GateTimes.OUTSIDE);
        }
        int[] heights = {0, -1, 1001, Integer.MIN_VALUE, Integer.MAX_VALUE};
        for (int n : heights) {
            Due.due("height(2, " + n + "), no such bin", x.height(2, n), GateTimes.UNKNOWN);
            Due.due("height(-1, " + n + "), no such bin", x.height(-1, n), GateTimes.UNKNOWN);
            Due.due("height(0, " + n + ")", x.height(0, n), GateTimes.OUTSIDE);
        }
    }

    /** 400 items, the last one at 21_000 and 800 long, when it is 1000. */
    private static GateTimes fullBelt() {
        GateTimes x = new GateTimes(2);
        for (int k = 1; k <= 399; k++) {
            x.item(51L * k, 1);
        }
        x.item(21_000, 800);
        x.step(1000);
        return x;
    }

    private static void outsideBeforeRoom() {
        Due.sentence("of several the first one here: .. OUTSIDE (a number is not as said), ROOM");
        GateTimes x = fullBelt();
        long free = 21_000 + 800 + 50;
        Due.due("late(400)", x.late(400), 0);
        Due.due("no room", x.item(free, 1), GateTimes.ROOM);
        Due.due("no room, at the greatest time", x.item(1_000_000_000L, 900), GateTimes.ROOM);
        Due.due("no room, and too short", x.item(free, 0), GateTimes.OUTSIDE);
        Due.due("no room, and too long", x.item(free, 901), GateTimes.OUTSIDE);
        Due.due("no room, and below now", x.item(999, 1), GateTimes.OUTSIDE);
        Due.due("no room, and too near", x.item(free - 1, 1), GateTimes.OUTSIDE);
        Due.due("no room, and above 10^9", x.item(TOO_GREAT, 1), GateTimes.OUTSIDE);
    }

    private static void refusedItem() {
        Due.sentence("A call that is refused changes nothing: item");
        GateTimes x = new GateTimes(1);
        Due.due("too long", x.item(5000, 901), GateTimes.OUTSIDE);
        Due.due("too short", x.item(5000, 0), GateTimes.OUTSIDE);
        Due.due("above 10^9", x.item(TOO_GREAT, 1), GateTimes.OUTSIDE);
        Due.due("late(1): there is no item", x.late(1), GateTimes.UNKNOWN);
        Due.due("the first, before the refused ones", x.item(0, 100), 1);
        Due.due("too near", x.item(149, 900), GateTimes.OUTSIDE);
        Due.due("near the refused one, not the one before", x.item(150, 100), 2);
        Due.due("step over all", x.step(1_000_000), 2);
        Due.due("below now", x.item(999_999, 1), GateTimes.OUTSIDE);
        Due.due("step", x.step(1_000_000), 0);
        Due.due("the third", x.item(1_000_000, 1), 3);
    }

    private static void refusedForRoom() {
        Due.sentence("A call that is refused changes nothing: item, when there is no ROOM");
        GateTimes x = fullBelt();
        Due.due("no room", x.item(30_000, 900), GateTimes.ROOM);
        Due.due("late(401)", x.late(401), GateTimes.UNKNOWN);
        Due.due("order(401, 0, 1000)", x.order(401, 0, 1000), GateTimes.UNKNOWN);
        Due.due("no room, nearer than to the refused one", x.item(22_000, 900), GateTimes.ROOM);
        Due.due("step over all", x.step(1_000_000), 400);
        Due.due("out(399, 0)", x.out(399, 0), 400);
        Due.due("count(2)", x.count(2), 400);
    }

    private static void refusedOrder() {
        Due.sentence("A call that is refused changes nothing: order");
        GateTimes x = new GateTimes(2);
        x.item(0, 10);
        x.step(900);
        Due.due("below now", x.order(1, 1, 899), GateTimes.OUTSIDE);
        Due.due("below now, too late if it were not", x.order(1, 0, 850), GateTimes.OUTSIDE);
        Due.due("above 10^9", x.order(1, 1, TOO_GREAT), GateTimes.OUTSIDE);
        Due.due("no such bin", x.order(1, 2, 900), GateTimes.UNKNOWN);
        Due.due("no such item", x.order(2, 1, 900), GateTimes.UNKNOWN);
        Due.due("late(1)", x.late(1), 0);
        Due.due("it has no order yet", x.order(1, 1, 900), 1);
        Due.due("above 10^9, with an order", x.order(1, 1, TOO_GREAT), GateTimes.OUTSIDE);
        Due.due("step(900)", x.step(900), 0);
        Due.due("step(2000)", x.step(2000), 1);
        Due.due("out(0, 1)", x.out(0, 1), 1);
    }

    private static void refusedStep() {
        Due.sentence("A call that is refused changes nothing: step");
        GateTimes x = new GateTimes(1);
        x.item(0, 10);
        x.item(1000, 10);
        x.order(2, 0, 2000);
        Due.due("below now", x.step(1999), GateTimes.OUTSIDE);
        Due.due("above 10^9", x.step(TOO_GREAT), GateTimes.OUTSIDE);
        Due.due("out(1, 0): item 2 is on the belt yet", x.out(1, 0), -1);
        Due.due("step(2000): the first came, after no step", x.step(2000), 1);
        Due.due("above 10^9", x.step(Long.MAX_VALUE), GateTimes.OUTSIDE);
        Due.due("step(3000)", x.step(3000), 1);
    }

    private static void refusedHeight() {
        Due.sentence("A call that is refused changes nothing: height");
        GateTimes x = new GateTimes(2);
        x.height(0, 5);
        Due.due("too low", x.height(0, 0), GateTimes.OUTSIDE);
        Due.due("too great", x.height(0, 1001), GateTimes.OUTSIDE);
        Due.due("no such bin", x.height(2, 3), GateTimes.UNKNOWN);
        Due.due("no such bin", x.height(-1, 3), GateTimes.UNKNOWN);
        Due.due("height(0, 6)", x.height(0, 6), 5);
        Due.due("height(1, 6)", x.height(1, 6), 1000);
    }

    private static void refusedSwapAndStuck() {
        Due.sentence("A call that is refused changes nothing: swap, stuck");
        GateTimes x = new GateTimes(2);
        x.item(0, 10);
        x.item(1000, 10);
        x.item(2000, 10);
        x.order(1, 0, 0);
        x.order(2, 1, 0);
        x.step(10_000);
        int[] others = {-1, 2, 3};
        for (int other : others) {
            Due.due("swap(" + other + ")", x.swap(other), GateTimes.UNKNOWN);
            Due.due("stuck(" + other + ", true)", x.stuck(other, true), GateTimes.UNKNOWN);
        }
        for (int bin = 0; bin < 2; bin++) {
            Due.due("swap(" + bin + ")", x.swap(bin), 1);
            Due.due("stuck(" + bin + ", false)", x.stuck(bin, false), 0);
        }
        Due.due("count(2)", x.count(2), 1);
    }

    private static void letsNoTimePass() {
        Due.sentence("A call that is refused .. lets no time pass.");
        GateTimes x = new GateTimes(1);
        x.item(0, 10);
        Due.due("order(2, 0, 5000)", x.order(2, 0, 5000), GateTimes.UNKNOWN);
        Due.due("order(1, 1, 5000)", x.order(1, 1, 5000), GateTimes.UNKNOWN);
        Due.due("order(1, 0, 10^9 + 1)", x.order(1, 0, TOO_GREAT), GateTimes.OUTSIDE);
        Due.due("step(10^9 + 1)", x.step(TOO_GREAT), GateTimes.OUTSIDE);
        Due.due("item(10^9 + 1, 1)", x.item(TOO_GREAT, 1), GateTimes.OUTSIDE);
        Due.due("item(5000, 901)", x.item(5000, 901), GateTimes.OUTSIDE);
        Due.due("out(0, 0)", x.out(0, 0), -1);
        Due.due("step(0)", x.step(0), 0);
        Due.due("order(1, 0, 0)", x.order(1, 0, 0), 1);
        x.step(500);
        Due.due("order(1, 0, 499)", x.order(1, 0, 499), GateTimes.OUTSIDE);
        Due.due("step(499)", x.step(499), GateTimes.OUTSIDE);
        Due.due("step(499) again: time went not back", x.step(499), GateTimes.OUTSIDE);
        Due.due("step(500)", x.step(500), 0);
    }

    /** Of two objects that get the same calls, one gets refused ones between them. */
    private static void betweenAllOtherCalls() {
        Due.sentence("A call that is refused changes nothing, and lets no time pass.");
        for (int seed = 0; seed < 40; seed++) {
            Random random = new Random(seed);
            GateTimes x = new GateTimes(3);
            GateTimes y = new GateTimes(3);
            long now = 0;
            long at = 0;
            for (int round = 0; round < 60; round++) {
                at = Math.max(now, at + 150) + random.nextInt(200);
                same("item", x.item(at, 100), y.item(at, 100));
                refuse(y, random.nextInt(13), now);
                now += random.nextInt(150);
                int bin = random.nextInt(3);
                same("order", x.order(round + 1, bin, now), y.order(round + 1, bin, now));
                refuse(y, random.nextInt(13), now);
                same("height", x.height(bin, 3), y.height(bin, 3));
                refuse(y, random.nextInt(13), now);
                if (round % 4 == 0) {
                    same("stuck", x.stuck(bin, round % 8 == 0), y.stuck(bin, round % 8 == 0));
                    same("swap", x.swap(bin), y.swap(bin));
                    same("step", x.step(now), y.step(now));
                }
            }
            same("step", x.step(1_000_000), y.step(1_000_000));
            for (int i = 0; i < 30; i++) {
                same("out", x.out(i, 0), y.out(i, 0));
                same("out", x.out(i, 1), y.out(i, 1));
                same("verify", x.verify(i, 0), y.verify(i, 0));
            }
        }
    }

    private static void same(String call, int without, int with) {
        Due.due(call + " with refused calls before it", with, without);
    }

    private static void refuse(GateTimes y, int kind, long now) {
        int due = kind < 9 ? GateTimes.OUTSIDE : GateTimes.UNKNOWN;
        Due.due("refused call of kind " + kind + " at " + now, refused(y, kind, now), due);
    }

    private static int refused(GateTimes y, int kind, long now) {
        switch (kind) {
            case 0:
                return y.item(now - 1, 5);
            case 1:
                return y.item(now + 50_000, 901);
            case 2:
                return y.item(TOO_GREAT, 1);
            case 3:
                return y.order(1, 1, now - 1);
            case 4:
                return y.order(1, 1, TOO_GREAT);
            case 5:
                return y.step(now - 1);
            case 6:
                return y.step(TOO_GREAT);
            case 7:
                return y.height(1, 0);
            case 8:
                return y.height(1, 1001);
            case 9:
                return y.order(400, 1, now + 100);
            case 10:
                return y.order(1, 3, now + 100);
            case 11:
                return y.stuck(3, true);
            default:
                return y.swap(3);
        }
    }
}
