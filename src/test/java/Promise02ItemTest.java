/** Promise 2: an item comes at a time, now or later. */
public final class Promise02ItemTest {
    public static void main(String[] args) {
        lengths();
        times();
        lastTime();
        gaps();
        gapBehindAnItemThatIsPast();
        room();
        refusedChangesNothing();
        comesInItsTime();
        Due.end();
    }

    private static void lengths() {
        Due.sentence("OUTSIDE (length 1 .. 900; ..)");
        GateTimes x = new GateTimes(2);
        Due.due("item(0, 0)", x.item(0, 0), GateTimes.OUTSIDE);
        Due.due("item(0, -1)", x.item(0, -1), GateTimes.OUTSIDE);
        Due.due("item(0, least)", x.item(0, Long.MIN_VALUE), GateTimes.OUTSIDE);
        Due.due("item(0, 901)", x.item(0, 901), GateTimes.OUTSIDE);
        Due.due("item(0, greatest)", x.item(0, Long.MAX_VALUE), GateTimes.OUTSIDE);
        Due.due("item(0, 2^32 + 1)", x.item(0, (1L << 32) + 1), GateTimes.OUTSIDE);
        Due.due("item(0, 1)", x.item(0, 1), 1);
        Due.due("item(51, 900)", x.item(51, 900), 2);
    }

    private static void times() {
        Due.sentence("OUTSIDE (.. the time is below now, above 10^9, ..)");
        GateTimes x = new GateTimes(2);
        Due.due("item(-1, 5)", x.item(-1, 5), GateTimes.OUTSIDE);
        Due.due("item(least, 5)", x.item(Long.MIN_VALUE, 5), GateTimes.OUTSIDE);
        Due.due("item(greatest, 5)", x.item(Long.MAX_VALUE, 5), GateTimes.OUTSIDE);
        Due.due("item(10^9 + 1, 5)", x.item(1_000_000_001L, 5), GateTimes.OUTSIDE);
        Due.due("item(2^32, 5)", x.item(1L << 32, 5), GateTimes.OUTSIDE);
        x.step(700);
        Due.due("item(699, 5) at 700", x.item(699, 5), GateTimes.OUTSIDE);
        Due.due("item(700, 5) at 700", x.item(700, 5), 1);
        Due.due("item(10^9, 5)", x.item(1_000_000_000L, 5), 2);
        Due.due("item(10^9, 5) again", x.item(1_000_000_000L, 5), GateTimes.OUTSIDE);
    }

    private static void lastTime() {
        Due.sentence("OUTSIDE (.. above 10^9, ..)");
        GateTimes x = new GateTimes(12);
        Due.due("item(10^9, 900)", x.item(1_000_000_000L, 900), 1);
        Due.due("order(1, 0, 10^9), 1000 before", x.order(1, 0, 1_000_000_000L), 1);
        Due.due("step(10^9)", x.step(1_000_000_000L), 0);
        Due.due("item(10^9, 1), no gap", x.item(1_000_000_000L, 1), GateTimes.OUTSIDE);
        Due.due("item(10^9 + 950, 1)", x.item(1_000_000_950L, 1), GateTimes.OUTSIDE);
        Due.due("out(0, 0)", x.out(0, 0), -1);
    }

    private static void gaps() {
        Due.sentence("OUTSIDE (.. or not 50 at least behind the end of the item before at the same place)");
        GateTimes x = new GateTimes(2);
        Due.due("item(1000, 300)", x.item(1000, 300), 1);
        Due.due("item(999, 5), before it", x.item(999, 5), GateTimes.OUTSIDE);
        Due.due("item(1000, 5), with it", x.item(1000, 5), GateTimes.OUTSIDE);
        Due.due("item(1300, 5), at its end", x.item(1300, 5), GateTimes.OUTSIDE);
        Due.due("item(1349, 5), 49 behind", x.item(1349, 5), GateTimes.OUTSIDE);
        Due.due("item(1350, 5), 50 behind", x.item(1350, 5), 2);
        Due.due("item(1404, 5), 49 behind", x.item(1404, 5), GateTimes.OUTSIDE);
        Due.due("item(1405, 5), 50 behind", x.item(1405, 5), 3);
        x.step(1_000_000);
        Due.due("item(10^6, 5)", x.item(1_000_000, 5), 4);
    }

    private static void gapBehindAnItemThatIsPast() {
        Due.sentence("OUTSIDE (.. or not 50 at least behind the end of the item before at the same place)");
        GateTimes x = new GateTimes(1);
        x.item(0, 900);
        x.step(940);
        Due.due("item(940, 5), now, 40 behind", x.item(940, 5), GateTimes.OUTSIDE);
        Due.due("item(949, 5), 49 behind", x.item(949, 5), GateTimes.OUTSIDE);
        x.step(950);
        Due.due("item(950, 5), now, 50 behind", x.item(950, 5), 2);
    }

    private static void room() {
        Due.sentence("ROOM");
        GateTimes x = new GateTimes(1);
        for (int k = 1; k <= 400; k++) {
            Due.due("item " + k, x.item(51L * (k - 1), 1), k);
        }
        Due.due("item 401", x.item(51L * 400, 1), GateTimes.ROOM);
        Due.due("item 401, too long", x.item(51L * 400, 901), GateTimes.OUTSIDE);
        Due.due("item 401, too near", x.item(51L * 400 - 1, 1), GateTimes.OUTSIDE);
        Due.due("item 401, too late", x.item(1_000_000_001L, 1), GateTimes.OUTSIDE);
        Due.due("late(400)", x.late(400), 0);
        Due.due("late(401)", x.late(401), GateTimes.UNKNOWN);
        Due.due("step over all", x.step(1_000_000), 400);
        Due.due("item 401, when all are in bins", x.item(2_000_000, 1), GateTimes.ROOM);
    }

    private static void refusedChangesNothing() {
        Due.sentence("A call that is refused changes nothing");
        GateTimes x = new GateTimes(1);
        x.item(5000, 901);
        x.item(1_000_000_001L, 1);
        Due.due("late(1) after refusals", x.late(1), GateTimes.UNKNOWN);
        Due.due("item(0, 1) after refusals", x.item(0, 1), 1);
        Due.due("step over all", x.step(1_000_000), 1);
    }

    private static void comesInItsTime() {
        Due.sentence("An item comes at a time (now or later): its number");
        GateTimes x = new GateTimes(1);
        Due.due("item(3000, 1)", x.item(3000, 1), 1);
        Due.due("step(0): an item lets no time pass", x.step(0), 0);
        Due.due("step(4999)", x.step(4999), 0);
        Due.due("step(5000)", x.step(5000), 1);
        Due.due("out(0, 2)", x.out(0, 2), 5000);
    }
}
