/**
 * A belt past gates: items are sent into bins by orders that come in time or too late, gates turn
 * between two items or cannot, bins get full and are exchanged, gates stick.
 */
public final class GateTimes {
    public static final int UNKNOWN = -101, OUTSIDE = -102, ROOM = -104;

    private static final int MOST_GATES = 12;
    private static final int MOST_ITEMS = 400;
    private static final int MOST_HEIGHT = 1000;
    private static final int MOST_MOVES = MOST_ITEMS * (MOST_GATES + 1);
    private static final long LAST_TIME = 1_000_000_000L;
    private static final long LONGEST_ITEM = 900;
    private static final long TIME_BETWEEN_GATES = 1000;
    private static final long TIME_BETWEEN_ITEMS = 50;
    private static final long TIME_TO_TURN = 200;
    private static final long TIME_TO_ORDER = 200;
    private static final int NONE = -1;

    private final Gate[] gates;
    /** Line p holds the items on their way to gate p; the last line leads to the rejected ones. */
    private final Line[] lines;
    /** How many came into each bin in all; the last number is that of the rejected ones. */
    private final int[] came;
    private final Row items = new Row();
    private final Row arrived = new Row();
    private final Row wrong = new Row();
    private int arrivedAtLastStep = 0;
    private long now = 0;

    public GateTimes(int gates) {
        int size = Math.max(1, Math.min(MOST_GATES, gates));
        this.gates = new Gate[size];
        this.lines = new Line[size + 1];
        this.came = new int[size + 1];
        for (int g = 0; g < size; g++) {
            this.gates[g] = new Gate();
        }
        for (int p = 0; p <= size; p++) {
            this.lines[p] = new Line();
        }
    }

    public int item(long at, long length) {
        if (length < 1 || length > LONGEST_ITEM || !isTimeAhead(at) || !isBehindLastItem(at)) {
            return OUTSIDE;
        }
        if (items.isFull()) {
            return ROOM;
        }
        Item fresh = new Item(items.size + 1, at, length);
        items.add(fresh);
        lines[0].join(fresh);
        return fresh.number;
    }

    public int order(int item, int bin, long t) {
        Item ordered = itemOf(item);
        if (ordered == null || gateOf(bin) == null) {
            return UNKNOWN;
        }
        if (!isTimeAhead(t)) {
            return OUTSIDE;
        }
        passTo(t);
        if (ordered.bin != NONE) {
            return 0;
        }
        if (ordered.order != NONE) {
            return 2;
        }
        long tooLate = t + TIME_TO_ORDER - ordered.frontAt(bin);
        if (tooLate > 0) {
            ordered.late = (int) tooLate;
            return 0;
        }
        ordered.order = bin;
        return 1;
    }

    public int step(long t) {
        if (!isTimeAhead(t)) {
            return OUTSIDE;
        }
        passTo(t);
        int since = arrived.size - arrivedAtLastStep;
        arrivedAtLastStep = arrived.size;
        return since;
    }

    public int out(int i, int what) {
        Item asked = arrived.get(i);
        if (asked == null) {
            return NONE;
        }
        switch (what) {
            case 0:
                return asked.number;
            case 1:
                return asked.bin;
            case 2:
                return (int) asked.frontAt(asked.bin);
            default:
                return NONE;
        }
    }

    public int height(int bin, int n) {
        Gate gate = gateOf(bin);
        if (gate == null) {
            return UNKNOWN;
        }
        if (n < 1 || n > MOST_HEIGHT) {
            return OUTSIDE;
        }
        int before = gate.height;
        gate.height = n;
        return before;
    }

    public int swap(int bin) {
        Gate gate = gateOf(bin);
        if (gate == null) {
            return UNKNOWN;
        }
        int before = gate.held;
        gate.held = 0;
        return before;
    }

    public int stuck(int gate, boolean on) {
        Gate meant = gateOf(gate);
        if (meant == null) {
            return UNKNOWN;
        }
        if (meant.stuck == on) {
            return 0;
        }
        meant.stuck = on;
        return 1;
    }

    public int late(int item) {
        Item asked = itemOf(item);
        return asked == null ? UNKNOWN : asked.late;
    }

    public int count(int bin) {
        return bin < 0 || bin >= came.length ? UNKNOWN : came[bin];
    }

    public int verify(int i, int what) {
        Item asked = wrong.get(i);
        if (asked == null) {
            return NONE;
        }
        switch (what) {
            case 0:
                return asked.number;
            case 1:
                return asked.order;
            case 2:
                return asked.bin;
            default:
                return NONE;
        }
    }

    private boolean isTimeAhead(long t) {
        return t >= now && t <= LAST_TIME;
    }

    private boolean isBehindLastItem(long at) {
        Item last = items.get(items.size - 1);
        return last == null || at >= last.at + last.length + TIME_BETWEEN_ITEMS;
    }

    private Item itemOf(int number) {
        return number < 1 ? null : items.get(number - 1);
    }

    private Gate gateOf(int gate) {
        return gate < 0 || gate >= gates.length ? null : gates[gate];
    }

    private void passTo(long t) {
        for (int moves = 0; moves < MOST_MOVES; moves++) {
            int place = nextPlace(t);
            if (place == NONE) {
                break;
            }
            moveAt(place);
        }
        now = t;
    }

    /** The place where a front is next, up to the time t; NONE if there is none. */
    private int nextPlace(long t) {
        int place = NONE;
        long earliest = t + 1;
        // From the far end on: of two fronts at one time the farther one has the lower number.
        for (int p = lines.length - 1; p >= 0; p--) {
            Item first = lines[p].first;
            if (first != null && first.frontAt(p) < earliest) {
                place = p;
                earliest = first.frontAt(p);
            }
        }
        return place;
    }

    private void moveAt(int place) {
        if (place < 0 || place >= lines.length) {
            return;
        }
        Item moved = lines[place].leave();
        if (moved == null) {
            return;
        }
        Gate gate = gateOf(place);
        if (gate == null || gate.takes(moved, place)) {
            putInto(place, moved);
        } else if (place + 1 < lines.length) {
            lines[place + 1].join(moved);
        }
    }

    private void putInto(int bin, Item moved) {
        if (bin < 0 || bin >= came.length) {
            return;
        }
        moved.bin = bin;
        came[bin]++;
        arrived.add(moved);
        if (moved.order != NONE && moved.order != bin) {
            wrong.add(moved);
        }
    }

    private static final class Item {
        final int number;
        final long at;
        final long length;
        int order = NONE;
        int bin = NONE;
        int late = 0;
        Item behind = null;

        Item(int number, long at, long length) {
            this.number = number;
            this.at = at;
            this.length = length;
        }

        long frontAt(int place) {
            return at + TIME_BETWEEN_GATES * (place + 1);
        }
    }

    /** A gate and the bin beside it. */
    private static final class Gate {
        boolean open = false;
        boolean stuck = false;
        int height = MOST_HEIGHT;
        int held = 0;
        /** No front is at a gate at 0 or before, so the first item finds it free. */
        long freeFrom = 0;

        /** Turns the gate for an item whose front is at it, and tells if it goes into the bin. */
        boolean takes(Item moved, int place) {
            boolean shouldBeOpen = moved.order == place && held < height;
            if (!stuck && moved.frontAt(place) >= freeFrom) {
                open = shouldBeOpen;
            }
            freeFrom = moved.frontAt(place) + moved.length + TIME_TO_TURN;
            if (open) {
                held++;
            }
            return open;
        }
    }

    /** Items one behind the other, which leave in the order in which they joined. */
    private static final class Line {
        Item first = null;
        Item last = null;

        void join(Item fresh) {
            if (last == null) {
                first = fresh;
            } else {
                last.behind = fresh;
            }
            last = fresh;
        }

        Item leave() {
            Item left = first;
            if (left != null) {
                first = left.behind;
                left.behind = null;
                if (first == null) {
                    last = null;
                }
            }
            return left;
        }
    }

    /** Items by their index, as many as the belt may see. */
    private static final class Row {
        final Item[] all = new Item[MOST_ITEMS];
        int size = 0;

        boolean isFull() {
            return size >= all.length;
        }

        void add(Item fresh) {
            if (!isFull()) {
                all[size] = fresh;
                size++;
            }
        }

        /** null when there is none such. */
        Item get(int i) {
            return i < 0 || i >= size ? null : all[i];
        }
    }
}
