/** Every run of a few steps, in every order, against the plain model of the document. */
public final class AnyOrderTest {
    private static final int NONE = TimeTable.NONE;
    private static final int LAST = Integer.MAX_VALUE;
    private static final int LONGEST = 5;
    private static final String[] STEPS = {
        "put(65)", "put(-2)", "insert(1, 1)", "put(66), insert(1, 2)", "put(67), insert(2, 1)", "put(68), insert(2, 3)",
        "remove(1)", "removeSpan(2, 3)", "shift(1)", "shift(-1)", "shiftSpan(1, 2, 1)", "shiftSpan(2, 3, -1)",
        "enable(true)", "reset()", "tick()", "leave()"};

    private static final Checks CHECKS = new Checks();

    private final int[] steps;
    private final TimeTable table;
    private final Model model;

    private AnyOrderTest(int most, int[] steps) {
        this.steps = steps;
        table = new TimeTable(most);
        model = new Model(most);
    }

    public static void main(String[] args) {
        for (int length = 0; length <= LONGEST && CHECKS.wrong() == 0; length++) {
            runAll("most 2", 2, new int[0], length);
            runAll("most 4, three wait", 4, new int[] {3, 5, 3}, length);
            runAll("most 3, each at its own time, one due", 3, new int[] {5, 4, 3, 14}, length);
        }
        CHECKS.end();
    }

    private static void runAll(String where, int most, int[] before, int length) {
        CHECKS.in(where);
        int runs = 1;
        for (int n = 0; n < length; n++) {
            runs *= STEPS.length;
        }
        for (int run = 0; run < runs && CHECKS.wrong() == 0; run++) {
            int[] steps = new int[before.length + length];
            System.arraycopy(before, 0, steps, 0, before.length);
            int rest = run;
            for (int n = before.length; n < steps.length; n++) {
                steps[n] = rest % STEPS.length;
                rest /= STEPS.length;
            }
            new AnyOrderTest(most, steps).run();
        }
    }

    private void run() {
        for (int step : steps) {
            take(step);
        }
        compareAll();
        // No other call shows the text.
        due("insert(3, LAST)", table.insert(3, LAST), model.insert(3, LAST));
        compareWaiting();
    }

    private void take(int step) {
        switch (step) {
            case 0: put(65); break;
            case 1: put(-2); break;
            case 2: insert(1, 1); break;
            case 3: put(66); insert(1, 2); break;
            case 4: put(67); insert(2, 1); break;
            case 5: put(68); insert(2, 3); break;
            case 6: due("remove", table.remove(1), model.remove(1)); break;
            case 7: due("removeSpan", table.removeSpan(2, 3), model.removeSpan(2, 3)); break;
            case 8: due("shift", table.shift(1), model.shift(1)); break;
            case 9: due("shift", table.shift(-1), model.shift(-1)); break;
            case 10: due("shiftSpan", table.shiftSpan(1, 2, 1), model.shiftSpan(1, 2, 1)); break;
            case 11: due("shiftSpan", table.shiftSpan(2, 3, -1), model.shiftSpan(2, 3, -1)); break;
            case 12: table.enable(true); model.on = true; break;
            case 13: table.reset(); model.reset(); break;
            case 14: due("tick", table.tick(), model.tick()); break;
            default: due("leave", table.leave(), model.leave()); break;
        }
    }

    private void put(int b) {
        due("put", table.put(b), model.put(b));
    }

    private void insert(int number, int time) {
        due("insert", table.insert(number, time), model.insert(number, time));
    }

    private void compareAll() {
        if (table.isOn() != model.on) {
            fail("isOn", table.isOn() ? 1 : 0, model.on ? 1 : 0);
        }
        for (int what = 0; what <= 3; what++) {
            due("count", table.count(what), model.count(what));
        }
        for (int j = 0; j <= model.gone.size(); j++) {
            due("left", table.left(j), model.left(j));
        }
        compareWaiting();
    }

    private void compareWaiting() {
        for (int k = 0; k <= model.entries.size(); k++) {
            for (int what = 0; what <= 2; what++) {
                due("about", table.about(k, what), model.about(k, what));
            }
            for (int j = 0; j == 0 || model.byteAt(k, j - 1) != NONE; j++) {
                due("byteAt", table.byteAt(k, j), model.byteAt(k, j));
            }
        }
    }

    private void due(String call, int got, int want) {
        if (got != want) {
            fail(call, got, want);
        }
    }

    /** The run's words are put together only here: there are some millions of runs. */
    private void fail(String call, int got, int want) {
        StringBuilder run = new StringBuilder();
        for (int step : steps) {
            run.append(STEPS[step]).append(", ");
        }
        CHECKS.due(run + "in or after it " + call, got, want);
    }
}
