/**
 * A timetable of commands: entries wait for their ticks, can be taken away by their numbers, moved all
 * together or those of a span, and leave in order, one by one, when their time has come.
 *
 * <p>An object is made for 512 calls: a call puts one byte at most, so a row of 512 bytes holds all that are
 * ever put. A byte of an entry therefore stays where it was put, and the text, every entry and what left are
 * stretches of that one row: nothing is copied, and no call makes anything.
 */
public final class TimeTable {
    public static final int NONE = -1;

    private static final int MOST_CALLS = 512;
    private static final int MOST_ENTRIES = 1024;
    private static final int MOST_BYTES = 256;
    private static final int LAST_TIME = 2147483647;

    private static final int INSERTED = 0;
    private static final int NO_BYTES = 1;
    private static final int NOT_ABOVE_NOW = 2;
    private static final int FULL = 3;

    private final byte[] bytes;

    /** Each slot's index once: first the slots of those that wait, in order, then the free ones. */
    private final int[] order;

    // Of the entry in a slot.
    private final int[] numbers;
    private final int[] times;
    private final int[] starts;
    private final int[] lengths;

    private int waiting;
    private int waitedInAll;
    private int now;
    private boolean on;
    private int textStart;
    private int textLength;
    private int leftStart;
    private int leftLength;

    public TimeTable(int most) {
        int slots = Math.max(1, Math.min(most, MOST_ENTRIES));
        bytes = new byte[MOST_CALLS];
        order = new int[slots];
        numbers = new int[slots];
        times = new int[slots];
        starts = new int[slots];
        lengths = new int[slots];
        for (int k = 0; k < slots; k++) {
            order[k] = k;
        }
    }

    public int put(int b) {
        int end = textStart + textLength;
        if (textLength >= MOST_BYTES || end >= bytes.length) {
            return NONE;
        }
        bytes[end] = (byte) b;
        textLength++;
        return textLength;
    }

    public int insert(int number, int time) {
        int answer = whetherInserted(time);
        if (answer == INSERTED) {
            addEntry(number, time);
        }
        textLength = 0;
        return answer;
    }

    public int remove(int number) {
        int kept = 0;
        for (int k = 0; k < waiting; k++) {
            if (numbers[order[k]] != number) {
                swap(k, kept);
                kept++;
            }
        }
        return keepFirst(kept);
    }

    public int removeSpan(int from, int to) {
        int kept = 0;
        for (int k = 0; k < waiting; k++) {
            if (!isInSpan(order[k], from, to)) {
                swap(k, kept);
                kept++;
            }
        }
        return keepFirst(kept);
    }

    public int shift(int by) {
        return moveTimes(0, LAST_TIME, by);
    }

    public int shiftSpan(int from, int to, int by) {
        return moveTimes(from, to, by);
    }

    public void enable(boolean on) {
        this.on = on;
    }

    public boolean isOn() {
        return on;
    }

    public void reset() {
        waiting = 0;
        on = false;
    }

    public int tick() {
        if (now == LAST_TIME) {
            return NONE;
        }
        now++;
        return now;
    }

    public int leave() {
        if (waiting == 0 || times[order[0]] > now) {
            return NONE;
        }
        leftStart = starts[order[0]];
        leftLength = lengths[order[0]];
        dropFirst();
        return leftLength;
    }

    public int left(int j) {
        return byteOf(leftStart, leftLength, j);
    }

    public int count(int what) {
        switch (what) {
            case 0:
                return now;
            case 1:
                return waiting;
            case 2:
                return waitedInAll;
            case 3:
                return leftLength;
            default:
                return NONE;
        }
    }

    public int about(int k, int what) {
        if (!isWaiting(k)) {
            return NONE;
        }
        switch (what) {
            case 0:
                return numbers[order[k]];
            case 1:
                return times[order[k]];
            case 2:
                return lengths[order[k]];
            default:
                return NONE;
        }
    }

    public int byteAt(int k, int j) {
        if (!isWaiting(k)) {
            return NONE;
        }
        return byteOf(starts[order[k]], lengths[order[k]], j);
    }

    private int whetherInserted(int time) {
        if (textLength == 0) {
            return NO_BYTES;
        }
        if (time <= now) {
            return NOT_ABOVE_NOW;
        }
        if (waiting >= order.length) {
            return FULL;
        }
        return INSERTED;
    }

    private void addEntry(int number, int time) {
        int slot = order[waiting];
        numbers[slot] = number;
        times[slot] = time;
        starts[slot] = textStart;
        lengths[slot] = textLength;
        textStart += textLength;
        waiting++;
        waitedInAll++;
        settle(waiting - 1);
    }

    private int moveTimes(int from, int to, int by) {
        int moved = 0;
        for (int k = 0; k < waiting; k++) {
            if (isInSpan(order[k], from, to)) {
                if (!canMove(order[k], by)) {
                    return NONE;
                }
                moved++;
            }
        }
        for (int k = 0; k < waiting; k++) {
            if (isInSpan(order[k], from, to)) {
                times[order[k]] += by;
            }
        }
        for (int k = 1; k < waiting; k++) {
            settle(k);
        }
        return moved;
    }

    private boolean canMove(int slot, int by) {
        long time = (long) times[slot] + by;
        return time > now && time <= LAST_TIME;
    }

    private boolean isInSpan(int slot, int from, int to) {
        return times[slot] >= from && times[slot] <= to;
    }

    private boolean isWaiting(int k) {
        return k >= 0 && k < waiting;
    }

    /** Those before place k are in order already. */
    private void settle(int k) {
        for (int place = k; place > 0 && isBefore(order[place], order[place - 1]); place--) {
            swap(place, place - 1);
        }
    }

    /** Bytes never move, so the entry that came earlier is the one whose bytes start earlier. */
    private boolean isBefore(int slot, int other) {
        if (times[slot] != times[other]) {
            return times[slot] < times[other];
        }
        return starts[slot] < starts[other];
    }

    private void swap(int place, int other) {
        int slot = order[place];
        order[place] = order[other];
        order[other] = slot;
    }

    private int keepFirst(int kept) {
        int gone = waiting - kept;
        waiting = kept;
        return gone;
    }

    private void dropFirst() {
        for (int k = 1; k < waiting; k++) {
            swap(k, k - 1);
        }
        waiting--;
    }

    private int byteOf(int start, int length, int j) {
        if (j < 0 || j >= length) {
            return NONE;
        }
        return bytes[start + j] & 255;
    }
}
