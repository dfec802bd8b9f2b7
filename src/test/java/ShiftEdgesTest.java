/** Promises 6 and 7: for each sentence that names an edge, under its own words. */
public final class ShiftEdgesTest extends TableChecks {
    public static void main(String[] args) {
        growAndFall();
        howManyWait();
        notAboveNow();
        notAboveNowThoughDue();
        aboveTheLast();
        sumsThatWrap();
        shiftKeepsAllElse();
        spanFromOneToAnother();
        spanOfNone();
        spanOneCannot();
        spanOthersCannot();
        spanThoughDue();
        earlierToTheTableFirst();
        everySmallSpan();
        CHECKS.end();
    }

    private static void growAndFall() {
        CHECKS.in("promise 6, grow by so many ticks (fall, below 0)");
        int[] steps = {-9, -1, 0, 1, 9, 1000};
        for (int by : steps) {
            TimeTable x = filled(10, 20, 10);
            due("shift(" + by + ")", x.shift(by), 3);
            due("those that wait after " + by, table(x), inOrder(new int[] {10 + by, 20 + by, 10 + by}));
        }
    }

    private static void howManyWait() {
        CHECKS.in("promise 6, how many wait");
        int[] steps = {MIN, -1, 0, 1, MAX};
        TimeTable x = new TimeTable(4);
        for (int by : steps) {
            due("shift(" + by + ") of none", x.shift(by), 0);
        }
        for (int k = 1; k <= 4; k++) {
            add(x, k, 10 * k, k);
            due("shift(1) of " + k, x.shift(1), k);
        }
        x.remove(2);
        due("shift(1) after remove", x.shift(1), 3);
        x.reset();
        due("shift(MIN) after reset", x.shift(MIN), 0);
    }

    private static void notAboveNow() {
        CHECKS.in("promise 6, NONE, and all stay, if one would not be above now");
        int[] times = {20, 10, 30};
        for (int now = 0; now <= 3; now++) {
            TimeTable x = filled(times);
            tick(x, now);
            String before = state(x);
            int[] wrong = {now - 10, now - 11, now - 15, now - 20, now - 30, -40, MIN + 1, MIN};
            for (int by : wrong) {
                due("now " + now + ", shift(" + by + ")", x.shift(by), NONE);
                due("now " + now + ", all stay after " + by, state(x), before);
            }
            due("now " + now + ", shift to the first above", x.shift(now - 9), 3);
            due("now " + now + ", those that wait", table(x), inOrder(new int[] {now + 11, now + 1, now + 21}));
        }
    }

    private static void notAboveNowThoughDue() {
        CHECKS.in("promise 6, one would not be above now, whose time has come");
        TimeTable x = filled(2, 1, 30);
        tick(x, 4);
        String before = state(x);
        int[] wrong = {0, 1, 2, 3, -1, MIN};
        for (int by : wrong) {
            due("shift(" + by + ")", x.shift(by), NONE);
            due("all stay after " + by, state(x), before);
        }
        due("shift(4)", x.shift(4), 3);
        due("those that wait", table(x), inOrder(new int[] {6, 5, 34}));
        due("leave()", x.leave(), NONE);
    }

    private static void aboveTheLast() {
        CHECKS.in("promise 6, NONE, and all stay, if one would be above 2147483647");
        int[] rooms = {0, 1, 5, 1000};
        for (int room : rooms) {
            int[][] orders = {{5, MAX - room, 10}, {MAX - room, 5, 10}, {5, 10, MAX - room}};
            for (int[] times : orders) {
                TimeTable x = filled(times);
                String before = state(x);
                int[] wrong = {room + 1, room + 2, MAX - 10, MAX - 5, MAX - 1, MAX};
                for (int by : wrong) {
                    due("room for " + room + ", shift(" + by + ")", x.shift(by), NONE);
                    due("room for " + room + ", all stay after " + by, state(x), before);
                }
                due("room for " + room + ", shift(" + room + ")", x.shift(room), 3);
                due("room for " + room + ", the last", x.about(2, 1), MAX);
                due("room for " + room + ", shift(1)", x.shift(1), NONE);
            }
        }
    }

    private static void sumsThatWrap() {
        CHECKS.in("promises 6 and 7, sums that an int does not hold");
        int[] times = {1, 2, 1073741824, MAX - 1, MAX};
        int[] steps = {MIN, MIN + 1, MIN + 2, -1073741825, -1073741824, -1073741823, 1073741823, 1073741824, MAX - 2,
            MAX - 1, MAX};
        for (int time : times) {
            for (int by : steps) {
                long sum = (long) time + by;
                boolean can = sum > 0 && sum <= MAX;
                TimeTable x = new TimeTable(1);
                add(x, 0, time, 10);
                due(time + ", shift(" + by + ")", x.shift(by), can ? 1 : NONE);
                due(time + ", after shift(" + by + ")", table(x), entry(0, can ? (int) sum : time));
                TimeTable y = new TimeTable(1);
                add(y, 0, time, 10);
                due(time + ", shiftSpan by " + by, y.shiftSpan(time, time, by), can ? 1 : NONE);
                due(time + ", after shiftSpan by " + by, table(y), entry(0, can ? (int) sum : time));
            }
        }
    }

    private static void shiftKeepsAllElse() {
        CHECKS.in("promises 6 and 7, nothing else happens");
        TimeTable x = new TimeTable(3);
        x.enable(true);
        add(x, 0, 1, 90, 91);
        add(x, 1, 20, 11);
        x.tick();
        x.leave();
        x.put(12);
        x.shift(5);
        x.shift(MIN);
        x.shiftSpan(25, 25, -3);
        x.shiftSpan(22, 22, MIN);
        due("state", state(x), "now 1 on, 2 waited, left 90 91, waiting 1@22[11]");
        due("the text stays", x.put(13), 2);
    }

    private static void spanFromOneToAnother() {
        CHECKS.in("promise 7, all with times from one to another: how many they are");
        int[] ends = {MIN, 0, 10, 11, 20, 29, 30, 31, MAX};
        for (int from : ends) {
            for (int to : ends) {
                int[] times = {20, 30, 10, 20};
                TimeTable x = filled(times);
                int moved = move(times, from, to, 100);
                due("shiftSpan(" + from + ", " + to + ", 100)", x.shiftSpan(from, to, 100), moved);
                due("those that wait after " + from + " to " + to, table(x), inOrder(times));
            }
        }
    }

    private static void spanOfNone() {
        CHECKS.in("promise 7, where none is such");
        int[][] spans = {{MIN, 0}, {1, 9}, {11, 19}, {31, MAX}, {20, 10}, {30, 10}, {MAX, MIN}, {MAX, 10}};
        int[] steps = {MIN, -1, 0, 1, MAX};
        TimeTable empty = new TimeTable(2);
        TimeTable x = filled(10, 20, 30);
        String before = state(x);
        for (int[] span : spans) {
            for (int by : steps) {
                String call = "shiftSpan(" + span[0] + ", " + span[1] + ", " + by + ")";
                due(call + " of an empty table", empty.shiftSpan(span[0], span[1], by), 0);
                due(call, x.shiftSpan(span[0], span[1], by), 0);
            }
        }
        due("shiftSpan(MIN, MAX, MIN) of an empty table", empty.shiftSpan(MIN, MAX, MIN), 0);
        due("nothing happened", state(x), before);
    }

    private static void spanOneCannot() {
        CHECKS.in("promise 7, NONE, and all stay, if one of them can't");
        int[][] orders = {{10, 20, MAX - 5, 5}, {MAX - 5, 20, 10, 5}, {5, 20, MAX - 5, 10}};
        int[][] wrong = {{10, MAX, 6}, {20, MAX - 5, 6}, {MAX - 5, MAX - 5, 6}, {10, MAX, MAX}, {10, 20, -8}, {10, 20, -9},
            {10, 10, -8}, {10, MAX, -10}, {10, 20, MIN}, {10, 20, MAX - 19}, {10, 20, MAX}, {5, 20, -3}, {MIN, MAX, 6},
            {MIN, MAX, -3}};
        for (int[] times : orders) {
            for (int[] call : wrong) {
                TimeTable x = filled(times);
                tick(x, 2);
                String before = state(x);
                String name = "shiftSpan(" + call[0] + ", " + call[1] + ", " + call[2] + ")";
                due(name, x.shiftSpan(call[0], call[1], call[2]), NONE);
                due("all stay after " + name, state(x), before);
            }
            TimeTable x = filled(times);
            tick(x, 2);
            due("shiftSpan(10, 20, -7)", x.shiftSpan(10, 20, -7), 2);
            due("shiftSpan(20, MAX, 5)", x.shiftSpan(20, MAX, 5), 1);
            due("times", x.about(0, 1) + " " + x.about(1, 1) + " " + x.about(2, 1) + " " + x.about(3, 1),
                "3 5 13 " + MAX);
        }
    }

    private static void spanOthersCannot() {
        CHECKS.in("promise 7, one of THEM: others that can't do no harm");
        TimeTable x = filled(1, 10, 20, MAX);
        tick(x, 3);
        due("shiftSpan(10, 20, -6)", x.shiftSpan(10, 20, -6), 2);
        due("after -6", table(x), inOrder(new int[] {1, 4, 14, MAX}));
        due("shiftSpan(4, 14, MAX - 14)", x.shiftSpan(4, 14, MAX - 14), 2);
        due("after MAX - 14", table(x), inOrder(new int[] {1, MAX - 10, MAX, MAX}));
    }

    private static void spanThoughDue() {
        CHECKS.in("promise 7, one of them can't, whose time has come");
        TimeTable x = filled(2, 3, 10);
        tick(x, 3);
        String before = state(x);
        due("shiftSpan(2, 2, 0)", x.shiftSpan(2, 2, 0), NONE);
        due("shiftSpan(2, 2, 1)", x.shiftSpan(2, 2, 1), NONE);
        due("shiftSpan(3, 10, 0)", x.shiftSpan(3, 10, 0), NONE);
        due("shiftSpan(2, 10, 1)", x.shiftSpan(2, 10, 1), NONE);
        due("all stay", state(x), before);
        due("shiftSpan(2, 2, 2)", x.shiftSpan(2, 2, 2), 1);
        due("after 2", table(x), inOrder(new int[] {4, 3, 10}));
    }

    private static void earlierToTheTableFirst() {
        CHECKS.in("promise 7, those that came earlier to the table are first");
        TimeTable x = new TimeTable(5);
        add(x, 9, 1, 99);
        add(x, 0, 8, 10);
        add(x, 1, 4, 11);
        x.remove(9);
        // Into the room of one that is gone: it came last all the same.
        add(x, 2, 2, 12);
        add(x, 3, 4, 13);
        due("shiftSpan(2, 4, 0)", x.shiftSpan(2, 4, 0), 3);
        due("shiftSpan(8, 8, -4), from behind", x.shiftSpan(8, 8, -4), 1);
        due("from behind", table(x), inOrder(new int[] {4, 4, 2, 4}));
        due("shiftSpan(2, 2, 2), from before", x.shiftSpan(2, 2, 2), 1);
        due("from before", table(x), inOrder(new int[] {4, 4, 4, 4}));
        add(x, 4, 4, 14);
        due("shift(3)", x.shift(3), 5);
        due("one that came after the shift", table(x), inOrder(new int[] {7, 7, 7, 7, 7}));
        tick(x, 7);
        for (int k = 0; k < 5; k++) {
            due("leave()", x.leave(), 1);
            due("left(0)", x.left(0), 10 + k);
        }
    }

    /** Each table of four with times 1 to 3, each span of these, each step that is not out of reach. */
    private static void everySmallSpan() {
        CHECKS.in("promise 7, each small table");
        for (int run = 0; run < 81; run++) {
            for (int span = 0; span < 9; span++) {
                for (int by = -3; by <= 3; by++) {
                    int[] times = {1 + run / 27, 1 + run / 9 % 3, 1 + run / 3 % 3, 1 + run % 3};
                    TimeTable x = filled(times);
                    int from = 1 + span / 3;
                    int to = 1 + span % 3;
                    String call = "times " + table(x) + ", shiftSpan(" + from + ", " + to + ", " + by + ")";
                    int moved = move(times, from, to, by);
                    due(call, x.shiftSpan(from, to, by), moved);
                    due("after " + call, table(x), inOrder(times));
                }
            }
        }
    }

    /** What is due of a shift of the span, now being 0: the times change unless one can't. */
    private static int move(int[] times, int from, int to, int by) {
        int moved = 0;
        for (int time : times) {
            if (from <= time && time <= to) {
                if (time + by <= 0) {
                    return NONE;
                }
                moved++;
            }
        }
        for (int k = 0; k < times.length; k++) {
            if (from <= times[k] && times[k] <= to) {
                times[k] += by;
            }
        }
        return moved;
    }

    /** The k-th has the number k and the byte 10 + k. */
    private static TimeTable filled(int... times) {
        TimeTable x = new TimeTable(times.length);
        for (int k = 0; k < times.length; k++) {
            due("insert(" + k + ", " + times[k] + ")", add(x, k, times[k], 10 + k), 0);
        }
        return x;
    }
}
