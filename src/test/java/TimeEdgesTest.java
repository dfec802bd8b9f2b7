/** Promises 10 to 16: for each sentence that names an edge, under its own words. */
public final class TimeEdgesTest extends TableChecks {
    private static final int[] FAR = {MIN, MIN + 1, -1024, -256, -2, -1, 256, 257, 511, 512, 1023, 1024, MAX - 1, MAX};

    public static void main(String[] args) {
        resetNoneWaits();
        resetIsOff();
        resetTextStays();
        resetWhatLeftStays();
        tickIsOneMore();
        tickAtTheLast();
        leaveNotAboveNow();
        leaveNoneSuch();
        leaveFirstInOrder();
        leaveFromThenOn();
        leftNone();
        leftWholeRange();
        countAnotherWhat();
        aboutNone();
        aboutAnotherWhat();
        byteAtNone();
        CHECKS.end();
    }

    private static void resetNoneWaits() {
        CHECKS.in("promise 10, none waits");
        for (int waiting = 0; waiting <= 3; waiting++) {
            TimeTable x = new TimeTable(3);
            for (int k = 0; k < waiting; k++) {
                add(x, k, k + 1, 10 + k);
            }
            x.tick();
            x.reset();
            due(waiting + " waited, after reset", state(x), "now 1 off, " + waiting + " waited, left , waiting ");
            due(waiting + " waited, about(0, 0)", x.about(0, 0), NONE);
            due(waiting + " waited, byteAt(0, 0)", x.byteAt(0, 0), NONE);
            due(waiting + " waited, leave()", x.leave(), NONE);
            due(waiting + " waited, remove(0)", x.remove(0), 0);
            due(waiting + " waited, shift(MIN)", x.shift(MIN), 0);
            for (int k = 0; k < 3; k++) {
                due(waiting + " waited, one fits again", add(x, k, 5, 10 + k), 0);
            }
            due(waiting + " waited, full again", add(x, 3, 5, 13), 3);
            due(waiting + " waited, those that wait", table(x), inOrder(new int[] {5, 5, 5}));
        }
    }

    private static void resetIsOff() {
        CHECKS.in("promise 10, it is off");
        TimeTable x = new TimeTable(1);
        x.reset();
        due("isOn() of a new one", x.isOn(), false);
        x.enable(true);
        x.reset();
        due("isOn()", x.isOn(), false);
        x.enable(true);
        due("isOn() after enable", x.isOn(), true);
    }

    private static void resetTextStays() {
        CHECKS.in("promise 10, the text stays");
        int[] lengths = {0, 1, 255, 256};
        for (int length : lengths) {
            TimeTable x = new TimeTable(2);
            add(x, 1, 5, 90);
            for (int j = 1; j <= length; j++) {
                x.put(j);
            }
            x.reset();
            due("text of " + length + ", put", x.put(77), length == 256 ? NONE : length + 1);
            due("text of " + length + ", insert", x.insert(2, 5), 0);
            int whole = Math.min(256, length + 1);
            due("text of " + length + ", bytes", x.about(0, 2), whole);
            due("text of " + length + ", the first", x.byteAt(0, 0), length == 0 ? 77 : 1);
            due("text of " + length + ", the last", x.byteAt(0, whole - 1), length == 256 ? 0 : 77);
        }
        TimeTable empty = new TimeTable(2);
        empty.reset();
        due("insert with no text", empty.insert(1, 1), 1);
    }

    private static void resetWhatLeftStays() {
        CHECKS.in("promise 10, what left stays");
        TimeTable x = new TimeTable(2);
        add(x, 1, 1, 40, 41);
        add(x, 2, 1, 50);
        x.tick();
        x.leave();
        x.reset();
        due("what left", gone(x), "40 41");
        add(x, 3, 2, 60, 61, 62);
        due("what left after insert", gone(x), "40 41");
        x.reset();
        x.reset();
        due("what left after two more", gone(x), "40 41");
        due("left(2)", x.left(2), NONE);
    }

    private static void tickIsOneMore() {
        CHECKS.in("promise 11, now is one more: it");
        TimeTable x = new TimeTable(1);
        for (int now = 1; now <= 256; now++) {
            due("tick()", x.tick(), now);
            due("count(0)", x.count(0), now);
        }
    }

    /** No run of 512 calls comes so far, but no other way leads there than all the ticks before it. */
    private static void tickAtTheLast() {
        CHECKS.in("promise 11, NONE, and nothing happens, if it is 2147483647");
        TimeTable x = new TimeTable(3);
        x.enable(true);
        add(x, 0, 1, 90, 91);
        add(x, 1, MAX - 1, 11);
        add(x, 2, MAX, 12);
        x.put(13);
        x.tick();
        x.leave();
        tick(x, MAX - 2);
        due("leave(), one tick before", x.leave(), 1);
        due("leave(), the last one is above", x.leave(), NONE);
        due("tick(), the last", x.tick(), MAX);
        String before = "now " + MAX + " on, 3 waited, left 11, waiting 2@" + MAX + "[12]";
        due("state", state(x), before);
        due("tick()", x.tick(), NONE);
        due("tick() again", x.tick(), NONE);
        due("nothing happened", state(x), before);
        due("the text stays", x.put(14), 2);
        due("insert(3, MAX)", x.insert(3, MAX), 2);
        due("shift(0)", x.shift(0), NONE);
        due("shift(1)", x.shift(1), NONE);
        due("shiftSpan(MAX, MAX, 1)", x.shiftSpan(MAX, MAX, 1), NONE);
        due("leave()", x.leave(), 1);
        due("left(0)", x.left(0), 12);
    }

    private static void leaveNotAboveNow() {
        CHECKS.in("promise 12, if its time is not above now");
        for (int time = 1; time <= 3; time++) {
            for (int now = 0; now <= 4; now++) {
                TimeTable x = new TimeTable(1);
                add(x, 0, time, 10);
                tick(x, now);
                String call = "time " + time + ", now " + now;
                due(call + ", leave()", x.leave(), time <= now ? 1 : NONE);
                due(call + ", those that wait", table(x), time <= now ? "" : entry(0, time));
                due(call + ", what left", gone(x), time <= now ? "10" : "");
            }
        }
    }

    private static void leaveNoneSuch() {
        CHECKS.in("promise 12, NONE if there is none such");
        TimeTable x = new TimeTable(2);
        due("leave() of none", x.leave(), NONE);
        due("nothing left", state(x), "now 0 off, 0 waited, left , waiting ");
        x.enable(true);
        add(x, 0, 1, 90, 91);
        add(x, 1, 3, 11);
        x.put(12);
        x.tick();
        due("leave()", x.leave(), 2);
        String before = state(x);
        due("leave() of one above now", x.leave(), NONE);
        due("nothing happened", state(x), before);
        x.tick();
        due("leave() one tick before", x.leave(), NONE);
        x.remove(1);
        x.tick();
        due("leave() of none again", x.leave(), NONE);
        due("what left stays", state(x), "now 3 on, 2 waited, left 90 91, waiting ");
        due("the text stays", x.put(13), 2);
    }

    private static void leaveFirstInOrder() {
        CHECKS.in("promise 12, the first in order waits no more");
        TimeTable x = new TimeTable(5);
        int[] times = {3, 1, 2, 1, 4};
        for (int k = 0; k < times.length; k++) {
            add(x, k, times[k], 10 + k);
        }
        tick(x, 3);
        int[] firsts = {11, 13, 12, 10};
        for (int n = 0; n < firsts.length; n++) {
            due("leave() " + n, x.leave(), 1);
            due("left(0) after " + n, x.left(0), firsts[n]);
            due("count(1) after " + n, x.count(1), 4 - n);
        }
        due("leave() of one above now", x.leave(), NONE);
        due("it waits", table(x), "4@4[14]");
    }

    private static void leaveFromThenOn() {
        CHECKS.in("promise 12, its bytes are what left from then on");
        TimeTable x = new TimeTable(2);
        add(x, 1, 1, 10, 11);
        x.tick();
        x.leave();
        add(x, 2, 2, 20, 21, 22);
        add(x, 3, 2, 30);
        add(x, 4, 0, 40);
        x.shift(1);
        x.removeSpan(9, 9);
        due("what left, others came", gone(x), "10 11");
        tick(x, 2);
        due("what left, their time has come", gone(x), "10 11");
        due("leave() of three", x.leave(), 3);
        due("what left", gone(x), "20 21 22");
        due("leave() of one", x.leave(), 1);
        due("what left last", gone(x), "30");
    }

    private static void leftNone() {
        CHECKS.in("promise 13, NONE if there is none");
        TimeTable x = new TimeTable(2);
        add(x, 1, 1, 10, 11, 12);
        add(x, 2, 1, 20);
        x.put(30);
        due("left(0), none left yet", x.left(0), NONE);
        x.tick();
        due("left(0), none left at its time", x.left(0), NONE);
        x.leave();
        due("left(2)", x.left(2), 12);
        due("left(3)", x.left(3), NONE);
        for (int j : FAR) {
            due("left(" + j + ")", x.left(j), NONE);
        }
        x.leave();
        due("left(0) of a shorter one", x.left(0), 20);
        for (int j = 1; j <= 5; j++) {
            due("left(" + j + ") of a shorter one", x.left(j), NONE);
        }
    }

    private static void leftWholeRange() {
        CHECKS.in("promise 13, byte j of what left, each of 0 .. 255");
        TimeTable x = new TimeTable(1);
        for (int b = 255; b >= 0; b--) {
            x.put(b);
        }
        x.insert(1, 1);
        x.tick();
        x.leave();
        for (int j = 3; j < 256; j++) {
            due("left(" + j + ")", x.left(j), 255 - j);
        }
    }

    private static void countAnotherWhat() {
        CHECKS.in("promise 14, NONE for another what");
        TimeTable x = new TimeTable(3);
        add(x, 1, 1, 10, 11);
        add(x, 2, 9, 20);
        add(x, 3, 9, 30);
        x.tick();
        x.leave();
        due("count(0)", x.count(0), 1);
        due("count(1)", x.count(1), 2);
        due("count(2)", x.count(2), 3);
        due("count(3)", x.count(3), 2);
        due("count(4)", x.count(4), NONE);
        due("count(5)", x.count(5), NONE);
        for (int what : FAR) {
            due("count(" + what + ")", x.count(what), NONE);
        }
    }

    private static void aboutNone() {
        CHECKS.in("promise 15, NONE if there is none");
        TimeTable x = new TimeTable(3);
        due("about(0, 0) of none", x.about(0, 0), NONE);
        add(x, -1, 9, 10, 11);
        add(x, 7, 4, 20);
        due("about(1, 0), whose number is -1", x.about(1, 0), -1);
        for (int what = 0; what < 3; what++) {
            due("about(2, " + what + "), behind the last", x.about(2, what), NONE);
            due("about(3, " + what + "), behind the room", x.about(3, what), NONE);
            for (int k : FAR) {
                due("about(" + k + ", " + what + ")", x.about(k, what), NONE);
            }
        }
        x.remove(7);
        due("about(1, 1) after remove", x.about(1, 1), NONE);
        tick(x, 9);
        x.leave();
        due("about(0, 1) after leave", x.about(0, 1), NONE);
    }

    private static void aboutAnotherWhat() {
        CHECKS.in("promise 15, another what");
        TimeTable x = new TimeTable(3);
        add(x, 5, 9, 10, 11);
        due("about(0, 0)", x.about(0, 0), 5);
        due("about(0, 1)", x.about(0, 1), 9);
        due("about(0, 2)", x.about(0, 2), 2);
        due("about(0, 3)", x.about(0, 3), NONE);
        for (int what : FAR) {
            due("about(0, " + what + ")", x.about(0, what), NONE);
            due("about(1, " + what + ")", x.about(1, what), NONE);
        }
    }

    private static void byteAtNone() {
        CHECKS.in("promise 16, NONE if there is none");
        TimeTable x = new TimeTable(3);
        due("byteAt(0, 0) of none", x.byteAt(0, 0), NONE);
        add(x, 1, 9, 10, 11);
        add(x, 2, 4, 20);
        x.put(30);
        due("byteAt(0, 0)", x.byteAt(0, 0), 20);
        due("byteAt(0, 1)", x.byteAt(0, 1), NONE);
        due("byteAt(1, 1)", x.byteAt(1, 1), 11);
        due("byteAt(1, 2)", x.byteAt(1, 2), NONE);
        due("byteAt(2, 0), behind the last", x.byteAt(2, 0), NONE);
        due("byteAt(3, 0), behind the room", x.byteAt(3, 0), NONE);
        for (int far : FAR) {
            due("byteAt(" + far + ", 0)", x.byteAt(far, 0), NONE);
            due("byteAt(0, " + far + ")", x.byteAt(0, far), NONE);
            due("byteAt(1, " + far + ")", x.byteAt(1, far), NONE);
            due("byteAt(" + far + ", " + far + ")", x.byteAt(far, far), NONE);
        }
        x.remove(2);
        due("byteAt(1, 0) after remove", x.byteAt(1, 0), NONE);
        tick(x, 9);
        x.leave();
        due("byteAt(0, 0) after leave", x.byteAt(0, 0), NONE);
    }
}
