/** Each promise of the document by its number: ordinary inputs, the edges it names, wrong inputs. */
public final class PromiseTest extends TableChecks {
    public static void main(String[] args) {
        newObject();
        newObjectSizes();
        put();
        putAllLife();
        insert();
        insertRefusals();
        insertOrder();
        remove();
        removeSpan();
        shift();
        shiftLimits();
        shiftSpan();
        shiftSpanOrder();
        shiftSpanLimits();
        enableAndIsOn();
        reset();
        tick();
        leave();
        leaveInOrder();
        left();
        count();
        about();
        byteAt();
        freedRoomIsUsedAgain();
        CHECKS.end();
    }

    private static void newObject() {
        CHECKS.in("promise 1");
        TimeTable x = new TimeTable(4);
        due("NONE", TimeTable.NONE, -1);
        due("isOn()", x.isOn(), false);
        due("count(0)", x.count(0), 0);
        due("count(1)", x.count(1), 0);
        due("count(2)", x.count(2), 0);
        due("count(3)", x.count(3), 0);
        due("left(0)", x.left(0), NONE);
        due("about(0, 0)", x.about(0, 0), NONE);
        due("byteAt(0, 0)", x.byteAt(0, 0), NONE);
        due("leave()", x.leave(), NONE);
        due("insert(1, 1)", x.insert(1, 1), 1);
        due("put(7)", x.put(7), 1);
    }

    private static void newObjectSizes() {
        CHECKS.in("promise 1, sizes");
        int[][] sizes = {{MIN, 1}, {-1, 1}, {0, 1}, {1, 1}, {2, 2}, {100, 100}};
        for (int[] size : sizes) {
            TimeTable x = new TimeTable(size[0]);
            for (int k = 0; k < size[1]; k++) {
                due("most " + size[0] + ": insert " + k, add(x, k, 5, 1), 0);
            }
            due("most " + size[0] + ": one more", add(x, 1, 5, 1), 3);
        }
        // No object's 512 calls fill more than 256.
        int[] large = {256, 1023, 1024, 1025, MAX};
        for (int most : large) {
            TimeTable x = new TimeTable(most);
            for (int k = 0; k < 255; k++) {
                due("most " + most + ": insert " + k, add(x, k, 5, 1), 0);
            }
            due("most " + most + ": count(1)", x.count(1), 255);
        }
    }

    private static void put() {
        CHECKS.in("promise 2");
        TimeTable x = new TimeTable(3);
        int[] given = {0, 1, 127, 128, 255, 256, 300, -1, -128, -129, MIN, MAX};
        int[] kept = {0, 1, 127, 128, 255, 0, 44, 255, 128, 127, 0, 255};
        for (int j = 0; j < given.length; j++) {
            due("put(" + given[j] + ")", x.put(given[j]), j + 1);
        }
        x.insert(1, 1);
        for (int j = 0; j < kept.length; j++) {
            due("byte of put(" + given[j] + ")", x.byteAt(0, j), kept[j]);
        }
        for (int j = 1; j <= 256; j++) {
            due("put, byte " + j, x.put(j), j);
        }
        due("put, byte 257", x.put(9), NONE);
        due("put, byte 257 again", x.put(9), NONE);
        due("insert of 256", x.insert(2, 2), 0);
        due("about(1, 2)", x.about(1, 2), 256);
        due("byteAt(1, 0)", x.byteAt(1, 0), 1);
        due("byteAt(1, 254)", x.byteAt(1, 254), 255);
        due("byteAt(1, 255)", x.byteAt(1, 255), 0);
        due("put after insert", x.put(9), 1);
    }

    private static void putAllLife() {
        CHECKS.in("promise 2, as many as 512 calls can put");
        TimeTable x = new TimeTable(2);
        for (int j = 1; j <= 256; j++) {
            due("put, byte " + j, x.put(j), j);
        }
        due("insert, call 257", x.insert(1, 1), 0);
        for (int j = 1; j <= 252; j++) {
            due("put, byte " + j + " of the second", x.put(j), j);
        }
        due("insert, call 510", x.insert(2, 1), 0);
        due("byteAt(0, 255)", x.byteAt(0, 255), 0);
        due("byteAt(1, 251), call 512", x.byteAt(1, 251), 252);
    }

    private static void insert() {
        CHECKS.in("promise 3");
        TimeTable x = new TimeTable(3);
        due("insert(-1, 1)", add(x, -1, 1, 50, 51, 52), 0);
        due("insert(MIN, MAX)", add(x, MIN, MAX, 60), 0);
        due("insert(-1, 1) again", add(x, -1, 1, 70, 71), 0);
        due("order", table(x), "-1@1[50 51 52] -1@1[70 71] " + MIN + "@" + MAX + "[60]");
        due("the text is empty", x.insert(4, 4), 1);
    }

    private static void insertRefusals() {
        CHECKS.in("promise 3, refusals");
        TimeTable x = new TimeTable(1);
        x.tick();
        x.tick();
        due("no bytes", x.insert(1, 5), 1);
        due("no bytes before time", x.insert(1, 2), 1);
        due("time of now", add(x, 1, 2, 9), 2);
        due("text is empty after 2", x.insert(1, 5), 1);
        due("time before now", add(x, 1, 1, 9), 2);
        due("time 0", add(x, 1, 0, 9), 2);
        due("time MIN", add(x, 1, MIN, 9), 2);
        due("none waits", table(x), "");
        due("first above now", add(x, 1, 3, 8), 0);
        due("full", add(x, 2, 5, 9, 9), 3);
        due("text is empty after 3", x.insert(2, 5), 1);
        due("no bytes before full", x.insert(2, 2), 1);
        due("time before full", add(x, 2, 2, 9), 2);
        due("put starts anew", x.put(4), 1);
        due("only the first waits", table(x), "1@3[8]");
        due("count(2)", x.count(2), 1);
    }

    private static void insertOrder() {
        CHECKS.in("terms, order");
        TimeTable x = new TimeTable(8);
        add(x, 1, 5, 1);
        add(x, 2, 3, 2);
        add(x, 3, 5, 3);
        add(x, 4, 4, 4);
        add(x, 5, 3, 5);
        add(x, 6, MAX, 6);
        add(x, 7, 1, 7);
        due("order", table(x), "7@1[7] 2@3[2] 5@3[5] 4@4[4] 1@5[1] 3@5[3] 6@" + MAX + "[6]");
    }

    private static void remove() {
        CHECKS.in("promise 4");
        TimeTable x = new TimeTable(8);
        due("remove(0) of none", x.remove(0), 0);
        add(x, 1, 4, 10);
        add(x, 2, 3, 20);
        add(x, 1, 2, 11);
        add(x, -1, 1, 30);
        add(x, 1, 1, 12);
        add(x, 2, 9, 21);
        due("remove(3)", x.remove(3), 0);
        due("remove(1)", x.remove(1), 3);
        due("after remove(1)", table(x), "-1@1[30] 2@3[20] 2@9[21]");
        due("remove(1) again", x.remove(1), 0);
        due("remove(-1)", x.remove(-1), 1);
        due("after remove(-1)", table(x), "2@3[20] 2@9[21]");
        due("remove(2)", x.remove(2), 2);
        due("after remove(2)", table(x), "");
        due("count(2)", x.count(2), 6);
        due("count(3)", x.count(3), 0);
    }

    private static void removeSpan() {
        CHECKS.in("promise 5");
        TimeTable x = new TimeTable(9);
        due("removeSpan of none", x.removeSpan(MIN, MAX), 0);
        for (int time = 1; time <= 8; time++) {
            add(x, time * 10, time, time);
        }
        add(x, 90, MAX, 9);
        due("removeSpan(5, 4)", x.removeSpan(5, 4), 0);
        due("removeSpan(MAX, MIN)", x.removeSpan(MAX, MIN), 0);
        due("removeSpan(MIN, 0)", x.removeSpan(MIN, 0), 0);
        due("removeSpan(9, MAX - 1)", x.removeSpan(9, MAX - 1), 0);
        due("removeSpan(3, 5)", x.removeSpan(3, 5), 3);
        due("after 3 to 5", table(x), "10@1[1] 20@2[2] 60@6[6] 70@7[7] 80@8[8] 90@" + MAX + "[9]");
        due("removeSpan(6, 6)", x.removeSpan(6, 6), 1);
        due("removeSpan(-3, 1)", x.removeSpan(-3, 1), 1);
        due("removeSpan(8, MAX)", x.removeSpan(8, MAX), 2);
        due("after 8 to MAX", table(x), "20@2[2] 70@7[7]");
        x.tick();
        x.tick();
        due("removeSpan(2, 2), its time has come", x.removeSpan(2, 2), 1);
        due("removeSpan(MIN, MAX)", x.removeSpan(MIN, MAX), 1);
        due("count(1)", x.count(1), 0);
    }

    private static void shift() {
        CHECKS.in("promise 6");
        TimeTable x = new TimeTable(4);
        due("shift(5) of none", x.shift(5), 0);
        due("shift(MIN) of none", x.shift(MIN), 0);
        add(x, 1, 10, 1);
        add(x, 2, 12, 2);
        add(x, 3, 10, 3);
        due("shift(5)", x.shift(5), 3);
        due("after 5", table(x), "1@15[1] 3@15[3] 2@17[2]");
        due("shift(-14)", x.shift(-14), 3);
        due("after -14", table(x), "1@1[1] 3@1[3] 2@3[2]");
        due("shift(0)", x.shift(0), 3);
        due("after 0", table(x), "1@1[1] 3@1[3] 2@3[2]");
    }

    private static void shiftLimits() {
        CHECKS.in("promise 6, limits");
        TimeTable x = new TimeTable(4);
        x.tick();
        x.tick();
        add(x, 1, 10, 1);
        add(x, 2, 20, 2);
        String before = table(x);
        int[] wrong = {-8, -9, -10, -11, -21, MIN, MAX, MAX - 19};
        for (int by : wrong) {
            due("shift(" + by + ")", x.shift(by), NONE);
            due("all stay after " + by, table(x), before);
        }
        due("shift(-7)", x.shift(-7), 2);
        due("after -7", table(x), "1@3[1] 2@13[2]");
        due("shift(MAX - 13)", x.shift(MAX - 13), 2);
        due("after MAX - 13", table(x), "1@" + (MAX - 10) + "[1] 2@" + MAX + "[2]");
        due("shift(1)", x.shift(1), NONE);
        due("shift(3 - (MAX - 10))", x.shift(3 - (MAX - 10)), 2);
        x.tick();
        due("shift(0), one's time has come", x.shift(0), NONE);
        due("shift(1), one's time has come", x.shift(1), 2);
        due("after 1", table(x), "1@4[1] 2@14[2]");
        x.tick();
        x.tick();
        due("shift(1), one's time was before now", x.shift(1), NONE);
        due("all stay then", table(x), "1@4[1] 2@14[2]");
        due("shift(2), one's time was before now", x.shift(2), 2);
        due("after 2", table(x), "1@6[1] 2@16[2]");
    }

    private static void shiftSpan() {
        CHECKS.in("promise 7");
        TimeTable x = new TimeTable(8);
        due("shiftSpan of none", x.shiftSpan(MIN, MAX, 1), 0);
        for (int time = 1; time <= 6; time++) {
            add(x, time * 10, time, time);
        }
        due("shiftSpan(4, 3, 1)", x.shiftSpan(4, 3, 1), 0);
        due("shiftSpan(7, MAX, MIN)", x.shiftSpan(7, MAX, MIN), 0);
        due("shiftSpan(MIN, 0, MIN)", x.shiftSpan(MIN, 0, MIN), 0);
        due("nothing moved", table(x), "10@1[1] 20@2[2] 30@3[3] 40@4[4] 50@5[5] 60@6[6]");
        due("shiftSpan(2, 4, 10)", x.shiftSpan(2, 4, 10), 3);
        due("after 2 to 4", table(x), "10@1[1] 50@5[5] 60@6[6] 20@12[2] 30@13[3] 40@14[4]");
        due("shiftSpan(13, 13, -11)", x.shiftSpan(13, 13, -11), 1);
        due("after 13", table(x), "10@1[1] 30@2[3] 50@5[5] 60@6[6] 20@12[2] 40@14[4]");
        due("shiftSpan(1, 6, 1) moves each once", x.shiftSpan(1, 6, 1), 4);
        due("after 1 to 6", table(x), "10@2[1] 30@3[3] 50@6[5] 60@7[6] 20@12[2] 40@14[4]");
        due("shiftSpan(3, 7, 0)", x.shiftSpan(3, 7, 0), 3);
        due("shiftSpan(MIN, MAX, 1)", x.shiftSpan(MIN, MAX, 1), 6);
        due("after all", table(x), "10@3[1] 30@4[3] 50@7[5] 60@8[6] 20@13[2] 40@15[4]");
    }

    private static void shiftSpanOrder() {
        CHECKS.in("promise 7, order");
        TimeTable x = new TimeTable(8);
        add(x, 1, 7, 1);
        add(x, 2, 3, 2);
        add(x, 3, 7, 3);
        add(x, 4, 3, 4);
        add(x, 5, 7, 5);
        due("shiftSpan(3, 3, 4)", x.shiftSpan(3, 3, 4), 2);
        due("as they came, from before", table(x), "1@7[1] 2@7[2] 3@7[3] 4@7[4] 5@7[5]");
        x.reset();
        add(x, 6, 3, 6);
        add(x, 7, 9, 7);
        add(x, 8, 3, 8);
        due("shiftSpan(9, 9, -6)", x.shiftSpan(9, 9, -6), 1);
        due("as they came, from behind", table(x), "6@3[6] 7@3[7] 8@3[8]");
        x.remove(6);
        add(x, 9, 2, 9);
        due("shiftSpan(2, 2, 1)", x.shiftSpan(2, 2, 1), 1);
        due("one in a room used before came last", table(x), "7@3[7] 8@3[8] 9@3[9]");
    }

    private static void shiftSpanLimits() {
        CHECKS.in("promise 7, limits");
        TimeTable x = new TimeTable(8);
        x.tick();
        x.tick();
        add(x, 1, 3, 1);
        add(x, 2, 10, 2);
        add(x, 3, 20, 3);
        add(x, 4, MAX, 4);
        x.tick();
        String before = table(x);
        due("before", before, "1@3[1] 2@10[2] 3@20[3] 4@" + MAX + "[4]");
        int[] wrong = {-7, -8, -10, -21, MIN, MAX - 19, MAX};
        for (int by : wrong) {
            due("shiftSpan(10, 20, " + by + ")", x.shiftSpan(10, 20, by), NONE);
            due("all stay after " + by, table(x), before);
        }
        due("shiftSpan(20, MAX, 1)", x.shiftSpan(20, MAX, 1), NONE);
        due("shiftSpan(3, 10, 0), one's time has come", x.shiftSpan(3, 10, 0), NONE);
        due("all stay", table(x), before);
        due("shiftSpan(10, 20, -6), others can't", x.shiftSpan(10, 20, -6), 2);
        due("after -6", table(x), "1@3[1] 2@4[2] 3@14[3] 4@" + MAX + "[4]");
        due("shiftSpan(3, 3, MAX - 3)", x.shiftSpan(3, 3, MAX - 3), 1);
        due("after MAX - 3", table(x), "2@4[2] 3@14[3] 1@" + MAX + "[1] 4@" + MAX + "[4]");
    }

    private static void enableAndIsOn() {
        CHECKS.in("promises 8 and 9");
        TimeTable x = new TimeTable(2);
        due("isOn()", x.isOn(), false);
        x.enable(false);
        due("isOn() after false", x.isOn(), false);
        x.enable(true);
        due("isOn() after true", x.isOn(), true);
        x.enable(true);
        due("isOn() after true twice", x.isOn(), true);
        due("insert while on", add(x, 1, 1, 1), 0);
        due("tick while on", x.tick(), 1);
        due("leave while on", x.leave(), 1);
        x.enable(false);
        due("isOn() after false again", x.isOn(), false);
        due("insert while off", add(x, 1, 2, 1), 0);
        due("tick while off", x.tick(), 2);
        due("leave while off", x.leave(), 1);
    }

    private static void reset() {
        CHECKS.in("promise 10");
        TimeTable x = new TimeTable(3);
        x.reset();
        due("count(1) of a new one", x.count(1), 0);
        x.enable(true);
        add(x, 1, 1, 40, 41);
        add(x, 2, 2, 50);
        add(x, 3, 3, 60);
        x.tick();
        x.leave();
        x.put(70);
        x.put(71);
        x.reset();
        due("isOn()", x.isOn(), false);
        due("none waits", table(x), "");
        due("about(0, 0)", x.about(0, 0), NONE);
        due("byteAt(0, 0)", x.byteAt(0, 0), NONE);
        due("now stays", x.count(0), 1);
        due("count(2) stays", x.count(2), 3);
        due("count(3) stays", x.count(3), 2);
        due("left(1) stays", x.left(1), 41);
        due("the text stays", x.put(72), 3);
        due("insert", x.insert(4, 2), 0);
        due("all its bytes", table(x), "4@2[70 71 72]");
        x.tick();
        due("leave()", x.leave(), 3);
    }

    private static void tick() {
        CHECKS.in("promise 11");
        TimeTable x = new TimeTable(2);
        add(x, 1, 2, 1);
        for (int now = 1; now <= 400; now++) {
            due("tick()", x.tick(), now);
        }
        due("count(0)", x.count(0), 400);
        due("an entry waits on", table(x), "1@2[1]");
    }

    private static void leave() {
        CHECKS.in("promise 12");
        TimeTable x = new TimeTable(3);
        due("leave() of none", x.leave(), NONE);
        add(x, 1, 2, 10, 11);
        due("leave() at 0", x.leave(), NONE);
        x.tick();
        due("leave() at 1", x.leave(), NONE);
        due("it waits", table(x), "1@2[10 11]");
        x.tick();
        due("leave() at 2", x.leave(), 2);
        due("it waits no more", table(x), "");
        due("leave() again", x.leave(), NONE);
        due("left(0) stays", x.left(0), 10);
        due("left(1) stays", x.left(1), 11);
        add(x, 2, 3, 20);
        x.tick();
        x.tick();
        due("leave() after its time", x.leave(), 1);
        for (int j = 0; j < 256; j++) {
            x.put(255 - j);
        }
        x.insert(3, 5);
        x.tick();
        due("leave() of 256", x.leave(), 256);
        due("left(0)", x.left(0), 255);
        due("left(255)", x.left(255), 0);
        due("left(256)", x.left(256), NONE);
    }

    private static void leaveInOrder() {
        CHECKS.in("promise 12, order");
        TimeTable x = new TimeTable(6);
        add(x, 1, 3, 1);
        add(x, 2, 1, 2);
        add(x, 3, 2, 3);
        add(x, 4, 1, 4);
        add(x, 5, 4, 5);
        for (int now = 1; now <= 3; now++) {
            x.tick();
        }
        int[] due = {2, 4, 3, 1};
        for (int first : due) {
            due("leave()", x.leave(), 1);
            due("left(0)", x.left(0), first);
        }
        due("leave() of one above now", x.leave(), NONE);
        due("left(0)", x.left(0), 1);
        due("the rest", table(x), "5@4[5]");
    }

    private static void left() {
        CHECKS.in("promise 13");
        TimeTable x = new TimeTable(2);
        add(x, 1, 1, 200, -1, 0);
        due("left(0) before", x.left(0), NONE);
        x.tick();
        x.leave();
        due("left(0)", x.left(0), 200);
        due("left(1)", x.left(1), 255);
        due("left(2)", x.left(2), 0);
        int[] none = {3, 4, 255, 256, 511, 512, MAX, -1, MIN};
        for (int j : none) {
            due("left(" + j + ")", x.left(j), NONE);
        }
        x.put(9);
        due("left(0) after put", x.left(0), 200);
        x.insert(2, 2);
        add(x, 3, 9, 8, 8, 8, 8);
        due("left(0) after insert", x.left(0), 200);
        x.tick();
        x.leave();
        due("left(0) of a shorter one", x.left(0), 9);
        due("left(1) of a shorter one", x.left(1), NONE);
    }

    private static void count() {
        CHECKS.in("promise 14");
        TimeTable x = new TimeTable(2);
        add(x, 1, 1, 1, 2, 3);
        add(x, 2, 1, 4);
        add(x, 3, 1, 5);
        x.insert(4, 1);
        due("count(1)", x.count(1), 2);
        due("count(2), those refused never waited", x.count(2), 2);
        due("count(3) before", x.count(3), 0);
        due("count(0)", x.count(0), 0);
        x.tick();
        x.leave();
        due("count(0) after tick", x.count(0), 1);
        due("count(1) after leave", x.count(1), 1);
        due("count(2) after leave", x.count(2), 2);
        due("count(3) after leave", x.count(3), 3);
        x.remove(2);
        due("count(1) after remove", x.count(1), 0);
        due("count(2) after remove", x.count(2), 2);
        due("leave()", x.leave(), NONE);
        due("count(3) after none left", x.count(3), 3);
        add(x, 5, 2, 6);
        due("count(2) after one more", x.count(2), 3);
        int[] none = {-1, 4, 5, MIN, MAX};
        for (int what : none) {
            due("count(" + what + ")", x.count(what), NONE);
        }
    }

    private static void about() {
        CHECKS.in("promise 15");
        TimeTable x = new TimeTable(4);
        add(x, 77, 9, 1, 2);
        add(x, -88, 4, 3, 4, 5);
        due("about(0, 0)", x.about(0, 0), -88);
        due("about(0, 1)", x.about(0, 1), 4);
        due("about(0, 2)", x.about(0, 2), 3);
        due("about(1, 0)", x.about(1, 0), 77);
        due("about(1, 1)", x.about(1, 1), 9);
        due("about(1, 2)", x.about(1, 2), 2);
        int[] none = {-1, 2, 3, 4, 5, 1024, MIN, MAX};
        for (int k : none) {
            for (int what = 0; what <= 2; what++) {
                due("about(" + k + ", " + what + ")", x.about(k, what), NONE);
            }
        }
        int[] whats = {-1, 3, 4, MIN, MAX};
        for (int what : whats) {
            due("about(0, " + what + ")", x.about(0, what), NONE);
        }
        x.remove(-88);
        due("about(0, 0) after remove", x.about(0, 0), 77);
        due("about(1, 0) after remove", x.about(1, 0), NONE);
    }

    private static void byteAt() {
        CHECKS.in("promise 16");
        TimeTable x = new TimeTable(4);
        add(x, 1, 9, 128, 129);
        add(x, 2, 4, -1, 0, 127);
        due("byteAt(0, 0)", x.byteAt(0, 0), 255);
        due("byteAt(0, 1)", x.byteAt(0, 1), 0);
        due("byteAt(0, 2)", x.byteAt(0, 2), 127);
        due("byteAt(1, 0)", x.byteAt(1, 0), 128);
        due("byteAt(1, 1)", x.byteAt(1, 1), 129);
        x.put(5);
        due("byteAt(1, 2)", x.byteAt(1, 2), NONE);
        int[] none = {3, 4, 255, 256, 511, 512, MAX, -1, MIN};
        for (int j : none) {
            due("byteAt(0, " + j + ")", x.byteAt(0, j), NONE);
        }
        int[] nobody = {-1, 2, 3, 4, 1024, MIN, MAX};
        for (int k : nobody) {
            due("byteAt(" + k + ", 0)", x.byteAt(k, 0), NONE);
        }
    }

    private static void freedRoomIsUsedAgain() {
        CHECKS.in("room used again");
        TimeTable x = new TimeTable(3);
        int[] ways = {0, 1, 2, 3};
        for (int way : ways) {
            add(x, 1, 10, 1);
            add(x, 2, 12, 2);
            add(x, 3, 11, 3);
            due("full", add(x, 4, 10, 4), 3);
            if (way == 0) {
                x.remove(3);
            } else if (way == 1) {
                x.removeSpan(11, 11);
            } else if (way == 2) {
                x.reset();
                add(x, 1, 10, 1);
                add(x, 2, 12, 2);
            } else {
                for (int now = 1; now <= 10; now++) {
                    x.tick();
                }
                x.leave();
                x.remove(3);
                add(x, 1, 11, 1);
                x.shiftSpan(12, 12, 1);
            }
            due("one fits", add(x, 5, 12, 5, 6), 0);
            due("one more does not", add(x, 6, 12, 7), 3);
            due("order", table(x), way < 3 ? "1@10[1] 2@12[2] 5@12[5 6]" : "1@11[1] 5@12[5 6] 2@13[2]");
            x.reset();
        }
    }
}
