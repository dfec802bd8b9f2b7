/** The terms and promises 1 to 5: for each sentence that names an edge, under its own words. */
public final class EntryEdgesTest extends TableChecks {
    public static void main(String[] args) {
        lessThanOneIsOne();
        whatIsBetweenIsItself();
        moreIsTheMost();
        newIsOff();
        newTextIsEmpty();
        newHasNothingLeft();
        lowestEightBits();
        noneIfItHas256();
        textIsEmptyThen();
        textIsEmptyThenAlsoIfTheyCannot();
        firstOfTheReasons();
        notAboveNow();
        asManyWaitAsCan();
        anyInt();
        moreThanOneCanHaveIt();
        oneTo256Bytes();
        byTimeThoseOfOneTimeAsTheyCame();
        removeNoneSuch();
        removeAllSuch();
        removeSpanNoneSuch();
        removeSpanFromOneToAnother();
        CHECKS.end();
    }

    private static void lessThanOneIsOne() {
        CHECKS.in("promise 1, what is less is the nearest of 1 .. 1,024");
        int[] few = {MIN, MIN + 1, -1024, -1, 0, 1};
        for (int most : few) {
            TimeTable x = new TimeTable(most);
            due("most " + most + ", the first", add(x, 1, 5, 10), 0);
            due("most " + most + ", the second", add(x, 2, 5, 20), 3);
            due("most " + most + ", those that wait", table(x), "1@5[10]");
        }
    }

    private static void whatIsBetweenIsItself() {
        CHECKS.in("promise 1, for so many entries that wait");
        int[] sizes = {2, 3, 127, 128, 254, 255};
        for (int most : sizes) {
            TimeTable x = new TimeTable(most);
            for (int k = 0; k < most; k++) {
                due("most " + most + ", entry " + k, add(x, k, 5, 1), 0);
            }
            due("most " + most + ", one more", add(x, 1, 5, 1), 3);
        }
    }

    /** 512 calls bring 256 entries at most, so such a table is never full: RoomTest looks at the bound itself. */
    private static void moreIsTheMost() {
        CHECKS.in("promise 1, what is more is the nearest of 1 .. 1,024");
        int[] many = {256, 1023, 1024, 1025, 65536, MAX - 1, MAX};
        for (int most : many) {
            TimeTable x = new TimeTable(most);
            for (int k = 0; k < 256; k++) {
                due("most " + most + ", entry " + k, add(x, k, 5, 1), 0);
            }
        }
    }

    private static void newIsOff() {
        CHECKS.in("promise 1, it is off");
        int[] sizes = {MIN, 1, 1024, MAX};
        for (int most : sizes) {
            due("most " + most + ", isOn()", new TimeTable(most).isOn(), false);
        }
    }

    private static void newTextIsEmpty() {
        CHECKS.in("promise 1, the text is empty");
        due("insert(1, 1)", new TimeTable(2).insert(1, 1), 1);
        due("put(9)", new TimeTable(2).put(9), 1);
    }

    private static void newHasNothingLeft() {
        CHECKS.in("promise 1, what left is empty");
        TimeTable x = new TimeTable(2);
        due("count(3)", x.count(3), 0);
        int[] places = {MIN, -1, 0, 1, 255, MAX};
        for (int j : places) {
            due("left(" + j + ")", x.left(j), NONE);
        }
    }

    private static void lowestEightBits() {
        CHECKS.in("promise 2, the lowest eight bits of b");
        int[] given = {0, 1, 127, 128, 255, 256, 257, 511, 65535, 65536, MAX, -1, -127, -128, -129, -256, -257, MIN};
        int[] kept = {0, 1, 127, 128, 255, 0, 1, 255, 255, 0, 255, 255, 129, 128, 127, 0, 255, 0};
        TimeTable x = new TimeTable(1);
        for (int j = 0; j < given.length; j++) {
            due("put(" + given[j] + ")", x.put(given[j]), j + 1);
        }
        x.insert(1, 1);
        for (int j = 0; j < kept.length; j++) {
            due("byteAt, put(" + given[j] + ")", x.byteAt(0, j), kept[j]);
        }
        x.tick();
        x.leave();
        for (int j = 0; j < kept.length; j++) {
            due("left, put(" + given[j] + ")", x.left(j), kept[j]);
        }
    }

    private static void noneIfItHas256() {
        CHECKS.in("promise 2, NONE, if it has 256");
        TimeTable x = new TimeTable(2);
        putMany(x, 255);
        due("put, the 256th", x.put(7), 256);
        int[] more = {0, 9, -1, MIN, MAX};
        for (int b : more) {
            due("put(" + b + "), the 257th", x.put(b), NONE);
        }
        due("insert", x.insert(1, 1), 0);
        due("its bytes", x.about(0, 2), 256);
        int[] places = {0, 1, 2, 127, 128, 253, 254};
        for (int j : places) {
            due("byteAt(0, " + j + ")", x.byteAt(0, j), j + 1);
        }
        due("byteAt(0, 255)", x.byteAt(0, 255), 7);
        due("put after it", x.put(8), 1);
        due("insert of one byte", x.insert(2, 2), 0);
        due("byteAt(1, 0)", x.byteAt(1, 0), 8);
        due("byteAt(1, 1)", x.byteAt(1, 1), NONE);
    }

    private static void textIsEmptyThen() {
        CHECKS.in("promise 3, the text is empty then");
        TimeTable x = new TimeTable(3);
        due("insert(1, 1)", add(x, 1, 1, 10, 11), 0);
        due("insert(2, 1)", x.insert(2, 1), 1);
        due("put(20)", x.put(20), 1);
        due("insert(3, 1)", x.insert(3, 1), 0);
        due("those that wait", table(x), "1@1[10 11] 3@1[20]");
    }

    private static void textIsEmptyThenAlsoIfTheyCannot() {
        CHECKS.in("promise 3, the text is empty then, also if they can't");
        int[] lengths = {1, 2, 255, 256};
        for (int length : lengths) {
            TimeTable x = new TimeTable(1);
            putMany(x, length);
            due(length + " bytes, insert(1, 0)", x.insert(1, 0), 2);
            due(length + " bytes, insert after 2", x.insert(1, 5), 1);
            due(length + " bytes, put after 2", x.put(10), 1);
            due(length + " bytes, the table's only one", x.insert(1, 5), 0);
            putMany(x, Math.min(length, 200));
            due(length + " bytes, insert into a full one", x.insert(2, 5), 3);
            due(length + " bytes, insert after 3", x.insert(2, 5), 1);
            due(length + " bytes, put after 3", x.put(20), 1);
            x.remove(1);
            due(length + " bytes, the next", x.insert(3, 5), 0);
            due(length + " bytes, those that wait", table(x), "3@5[20]");
        }
    }

    private static void firstOfTheReasons() {
        CHECKS.in("promise 3, the first of these: 1, 2, 3");
        for (int reasons = 0; reasons < 8; reasons++) {
            boolean noBytes = (reasons & 1) != 0;
            boolean early = (reasons & 2) != 0;
            boolean full = (reasons & 4) != 0;
            TimeTable x = new TimeTable(1);
            tick(x, 3);
            if (full) {
                add(x, 7, 9, 1);
            }
            if (!noBytes) {
                x.put(2);
            }
            String call = (noBytes ? "no bytes, " : "") + (early ? "early, " : "") + (full ? "full, " : "");
            due(call + "insert", x.insert(8, early ? 3 : 4), noBytes ? 1 : early ? 2 : full ? 3 : 0);
            due(call + "count(2)", x.count(2), full || reasons == 0 ? 1 : 0);
            due(call + "those that wait", table(x), full ? "7@9[1]" : reasons == 0 ? "8@4[2]" : "");
        }
    }

    private static void notAboveNow() {
        CHECKS.in("promise 3, 2 the time is not above now");
        for (int now = 0; now <= 3; now++) {
            TimeTable x = new TimeTable(3);
            tick(x, now);
            int[] early = {now, now - 1, 0, -1, MIN, MIN + 1};
            for (int time : early) {
                due("now " + now + ", insert(1, " + time + ")", add(x, 1, time, 1), 2);
            }
            due("now " + now + ", none waits", table(x), "");
            due("now " + now + ", the first above", add(x, 1, now + 1, 1), 0);
            due("now " + now + ", the last", add(x, 2, MAX, 2), 0);
            due("now " + now + ", those that wait", table(x), "1@" + (now + 1) + "[1] 2@" + MAX + "[2]");
        }
    }

    private static void asManyWaitAsCan() {
        CHECKS.in("promise 3, 3 as many wait as can");
        for (int way = 0; way < 4; way++) {
            TimeTable x = new TimeTable(2);
            add(x, 1, 1, 10);
            add(x, 2, 9, 20);
            String before = state(x);
            due("way " + way + ", full", add(x, 3, 5, 30), 3);
            due("way " + way + ", full again", add(x, 3, MAX, 30, 31), 3);
            due("way " + way + ", nothing else happened", state(x), before);
            makeRoom(x, way);
            due("way " + way + ", one fits", add(x, 4, 9, 40), 0);
            due("way " + way + ", it waits", x.about(x.count(1) - 1, 0), 4);
        }
    }

    private static void makeRoom(TimeTable x, int way) {
        if (way == 0) {
            due("remove(1)", x.remove(1), 1);
        } else if (way == 1) {
            due("removeSpan(1, 1)", x.removeSpan(1, 1), 1);
        } else if (way == 2) {
            due("tick()", x.tick(), 1);
            due("leave()", x.leave(), 1);
        } else {
            x.reset();
        }
    }

    private static void anyInt() {
        CHECKS.in("terms, a number is any int");
        int[] numbers = {MIN, MIN + 1, -1024, -2, -1, 0, 1, 1024, 1025, MAX - 1, MAX};
        TimeTable x = new TimeTable(numbers.length);
        for (int number : numbers) {
            due("insert(" + number + ", 1)", add(x, number, 1, 1), 0);
        }
        for (int k = 0; k < numbers.length; k++) {
            due("about(" + k + ", 0)", x.about(k, 0), numbers[k]);
        }
        for (int number : numbers) {
            due("remove(" + number + ")", x.remove(number), 1);
        }
    }

    private static void moreThanOneCanHaveIt() {
        CHECKS.in("terms, more than one can have a number");
        TimeTable x = new TimeTable(5);
        due("insert(7, 2)", add(x, 7, 2, 10), 0);
        due("insert(7, 2), the same", add(x, 7, 2, 10), 0);
        due("insert(7, 1)", add(x, 7, 1, 20), 0);
        due("insert(7, 3)", add(x, 7, 3, 10, 20), 0);
        due("those that wait", table(x), "7@1[20] 7@2[10] 7@2[10] 7@3[10 20]");
        due("remove(7)", x.remove(7), 4);
    }

    private static void oneTo256Bytes() {
        CHECKS.in("terms, an entry has 1 to 256 bytes");
        int[] lengths = {1, 2, 255, 256};
        for (int length : lengths) {
            TimeTable x = new TimeTable(1);
            due("insert of 0 bytes", x.insert(1, 1), 1);
            putMany(x, length);
            due("insert of " + length, x.insert(1, 1), 0);
            due("about(0, 2) of " + length, x.about(0, 2), length);
            due("the last byte of " + length, x.byteAt(0, length - 1), length % 256);
            due("none behind " + length, x.byteAt(0, length), NONE);
            x.tick();
            due("leave() of " + length, x.leave(), length);
            due("the last byte that left of " + length, x.left(length - 1), length % 256);
            due("none left behind " + length, x.left(length), NONE);
        }
    }

    private static void byTimeThoseOfOneTimeAsTheyCame() {
        CHECKS.in("terms, by time, those of one time as they came");
        for (int run = 0; run < 81; run++) {
            int[] times = {1 + run / 27, 1 + run / 9 % 3, 1 + run / 3 % 3, 1 + run % 3};
            TimeTable x = new TimeTable(4);
            for (int k = 0; k < 4; k++) {
                due("run " + run + ", insert(" + k + ", " + times[k] + ")", add(x, k, times[k], 10 + k), 0);
            }
            due("run " + run, table(x), inOrder(times));
        }
    }

    private static void removeNoneSuch() {
        CHECKS.in("promise 4, none such");
        int[] numbers = {MIN, -1, 0, 1, 3, 8, 10, MAX};
        TimeTable x = new TimeTable(4);
        for (int number : numbers) {
            due("remove(" + number + ") of none", x.remove(number), 0);
        }
        add(x, 5, 8, 10);
        add(x, 6, 1, 20);
        add(x, 7, 3, 30);
        x.tick();
        x.leave();
        x.remove(7);
        String before = state(x);
        for (int number : numbers) {
            due("remove(" + number + ")", x.remove(number), 0);
        }
        due("remove(6), it left", x.remove(6), 0);
        due("remove(7), it is gone", x.remove(7), 0);
        due("nothing happened", state(x), before);
    }

    private static void removeAllSuch() {
        CHECKS.in("promise 4, all with a number are gone: how many");
        for (int whose = 0; whose < 16; whose++) {
            TimeTable x = new TimeTable(4);
            StringBuilder rest = new StringBuilder();
            for (int k = 0; k < 4; k++) {
                boolean chosen = (whose >> k & 1) != 0;
                add(x, chosen ? -1 : k, k + 1, 10 + k);
                if (!chosen) {
                    rest.append(rest.length() == 0 ? "" : " ").append(entry(k, k + 1));
                }
            }
            due("those of " + whose + ", remove(-1)", x.remove(-1), Integer.bitCount(whose));
            due("those of " + whose + ", the rest", table(x), rest.toString());
            due("those of " + whose + ", remove(-1) again", x.remove(-1), 0);
            due("those of " + whose + ", count(2)", x.count(2), 4);
            due("those of " + whose + ", count(3)", x.count(3), 0);
        }
    }

    private static void removeSpanNoneSuch() {
        CHECKS.in("promise 5, none such");
        int[][] spans = {{MIN, 0}, {MIN, -1}, {2, 3}, {5, 5}, {9, MAX}, {5, 3}, {4, 1}, {8, 1}, {MAX, MIN}, {MIN, MIN},
            {MAX, MAX}, {0, 0}, {1, 1}};
        TimeTable x = new TimeTable(3);
        for (int[] span : spans) {
            due("removeSpan(" + span[0] + ", " + span[1] + ") of none", x.removeSpan(span[0], span[1]), 0);
        }
        due("removeSpan(MIN, MAX) of none", x.removeSpan(MIN, MAX), 0);
        add(x, 5, 8, 10);
        add(x, 2, 1, 20);
        add(x, 9, 4, 30);
        x.tick();
        x.leave();
        String before = state(x);
        for (int[] span : spans) {
            due("removeSpan(" + span[0] + ", " + span[1] + ")", x.removeSpan(span[0], span[1]), 0);
        }
        due("nothing happened", state(x), before);
    }

    private static void removeSpanFromOneToAnother() {
        CHECKS.in("promise 5, all with times from one to another are gone: how many");
        int[] ends = {MIN, 0, 1, 2, 3, 4, 5, MAX};
        for (int from : ends) {
            for (int to : ends) {
                TimeTable x = new TimeTable(4);
                StringBuilder rest = new StringBuilder();
                int gone = 0;
                for (int k = 0; k < 4; k++) {
                    int time = k + 1;
                    add(x, k, time, 10 + k);
                    if (from <= time && time <= to) {
                        gone++;
                    } else {
                        rest.append(rest.length() == 0 ? "" : " ").append(entry(k, time));
                    }
                }
                // Their times may have come: they wait until they leave.
                tick(x, 2);
                due("removeSpan(" + from + ", " + to + ")", x.removeSpan(from, to), gone);
                due("the rest of " + from + " to " + to, table(x), rest.toString());
                due("removeSpan(" + from + ", " + to + ") again", x.removeSpan(from, to), 0);
            }
        }
        TimeTable x = new TimeTable(2);
        add(x, 1, MAX, 1);
        due("removeSpan(MIN, MAX - 1)", x.removeSpan(MIN, MAX - 1), 0);
        due("removeSpan(MAX, MAX)", x.removeSpan(MAX, MAX), 1);
    }

    /** Bytes 1, 2, 3 and so on. */
    private static void putMany(TimeTable x, int many) {
        for (int j = 1; j <= many; j++) {
            due("put, byte " + j, x.put(j), j);
        }
    }
}
