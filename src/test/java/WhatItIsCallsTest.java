/** "What it is": the 512 calls of an object. */
public final class WhatItIsCallsTest {
    private static final int PROMISED = 512;

    public static void main(String[] args) {
        theLastPromisedCall();
        afterRefusalsAlone();
        laterCallsEnd();
        Due.end();
    }

    /** Each method of the face is, on an object of its own, the 512th call. */
    private static void theLastPromisedCall() {
        Due.sentence("An object is used for at most 512 calls after it has been made");
        Due.due("512th: item", usedObject().item(30_000, 1), GateTimes.ROOM);
        Due.due("512th: order", usedObject().order(400, 1, 20_349), 1);
        Due.due("512th: step", usedObject().step(50_000), 400 - 19);
        Due.due("512th: out", usedObject().out(18, 0), 19);
        Due.due("512th: height", usedObject().height(1, 5), 1000);
        Due.due("512th: swap", usedObject().swap(0), 19);
        Due.due("512th: stuck", usedObject().stuck(0, true), 0);
        Due.due("512th: late", usedObject().late(19), 0);
        Due.due("512th: count", usedObject().count(0), 19);
        Due.due("512th: verify", usedObject().verify(17, 0), 19);
    }

    /** 511 calls: 400 items, of which 19 have come through a gate that stuck open behind the first. */
    private static GateTimes usedObject() {
        GateTimes x = new GateTimes(2);
        int calls = 0;
        for (int k = 1; k <= 400; k++, calls++) {
            Due.due("item " + k, x.item(51L * k, 1), k);
        }
        for (int k = 1; k <= 60; k++, calls++) {
            Due.due("order of " + k, x.order(k, k == 1 ? 0 : 1, 51), 1);
        }
        Due.due("step", x.step(1051), 1);
        Due.due("stuck", x.stuck(0, true), 1);
        Due.due("step", x.step(1051 + 51 * 18), 18);
        calls += 3;
        for (; calls < PROMISED - 1; calls++) {
            Due.due("late(61)", x.late(61), 0);
        }
        return x;
    }

    private static void afterRefusalsAlone() {
        Due.sentence("An object is used for at most 512 calls after it has been made");
        GateTimes x = new GateTimes(1);
        for (int k = 1; k < PROMISED; k++) {
            Due.due("item(0, 901)", x.item(0, 901), GateTimes.OUTSIDE);
        }
        Due.due("512th: item(0, 900)", x.item(0, 900), 1);
    }

    /** Their answers are free, but each must come: what a call throws ends this test. */
    private static void laterCallsEnd() {
        Due.sentence("what later calls answer is free");
        GateTimes x = new GateTimes(12);
        for (int k = 0; k < 2000; k++) {
            x.item(100L * k, 50);
            x.order(k, k % 14 - 1, 90L * k);
            x.step(90L * k);
            x.out(k - 1, k % 3);
            x.height(k % 14 - 1, k % 6);
            x.swap(k % 14 - 1);
            x.stuck(k % 14 - 1, k % 5 == 0);
            x.late(k);
            x.count(k % 15 - 1);
            x.verify(k - 1, k % 3);
        }
    }
}
