import java.lang.reflect.Array;
import java.lang.reflect.Field;
import java.util.ArrayList;
import java.util.List;

/**
 * The memory behind the face: the bound of 1,024 can't be met within 512 calls, so it is looked for in what is made
 * for a table of each size, whatever the rows are called.
 */
public final class RoomTest extends TableChecks {
    /** All that the calls of one run make lives in one room; a table takes a small part of it. */
    private static final int MOST_ELEMENTS = 10_000;

    public static void main(String[] args) throws IllegalAccessException {
        lessIsAsOne();
        moreIsAsTheMost();
        eachSizeHasItsOwnRoom();
        madeOnce();
        CHECKS.end();
    }

    private static void lessIsAsOne() throws IllegalAccessException {
        CHECKS.in("promise 1, what is less is the nearest");
        int[] few = {MIN, -1024, -1, 0};
        for (int most : few) {
            due("elements for " + most, elements(new TimeTable(most)), elements(new TimeTable(1)));
        }
    }

    private static void moreIsAsTheMost() throws IllegalAccessException {
        CHECKS.in("promise 1, what is more is the nearest");
        int[] many = {1025, 1026, 2048, 65536, MAX - 1, MAX};
        for (int most : many) {
            due("elements for " + most, elements(new TimeTable(most)), elements(new TimeTable(1024)));
        }
        due("a small part of the room", elements(new TimeTable(1024)) <= MOST_ELEMENTS, true);
    }

    private static void eachSizeHasItsOwnRoom() throws IllegalAccessException {
        CHECKS.in("promise 1, 1 .. 1,024");
        for (int most = 2; most <= 1024; most++) {
            due("more elements for " + most + " than for one less",
                elements(new TimeTable(most)) > elements(new TimeTable(most - 1)), true);
        }
    }

    private static void madeOnce() throws IllegalAccessException {
        CHECKS.in("terms, all memory is the table's own, made once");
        TimeTable x = new TimeTable(4);
        TimeTable other = new TimeTable(4);
        List<Object> before = rows(x);
        for (int k = 0; k < 20; k++) {
            add(x, k, x.count(0) + 1 + k % 3, k, k + 1);
            x.shift(1);
            x.shiftSpan(0, x.count(0) + 2, 1);
            x.remove(k - 2);
            x.tick();
            x.leave();
        }
        x.removeSpan(MIN, MAX);
        x.reset();
        List<Object> after = rows(x);
        due("rows", after.size(), before.size());
        for (int r = 0; r < before.size(); r++) {
            due("row " + r + " is the same", after.get(r) == before.get(r), true);
            due("row " + r + " is another table's too", rows(other).contains(before.get(r)), false);
        }
    }

    private static int elements(TimeTable x) throws IllegalAccessException {
        int sum = 0;
        for (Object row : rows(x)) {
            sum += Array.getLength(row);
        }
        return sum;
    }

    private static List<Object> rows(TimeTable x) throws IllegalAccessException {
        List<Object> rows = new ArrayList<>();
        for (Field field : TimeTable.class.getDeclaredFields()) {
            if (field.getType().isArray()) {
                field.setAccessible(true);
                rows.add(field.get(x));
            }
        }
        return rows;
    }
}
