import java.util.ArrayList;
import java.util.List;
import java.util.Random;

/** Runs of 512 calls against the plainest model of the document; the seeds are fixed. */
public final class ModelTest {
    private static final int NONE = TimeTable.NONE;
    private static final int CALLS = 512;
    private static final int RUNS = 6000;
    private static final int[] EDGES = {
        Integer.MIN_VALUE, Integer.MIN_VALUE + 1, -256, -1, 0, 1, 255, 256, 257, 1024, 1025,
        Integer.MAX_VALUE - 1, Integer.MAX_VALUE};

    private static final class Entry {
        int number;
        long time;
        int came;
        List<Integer> bytes;
    }

    /** Holds the entries as they came and looks for the order each time anew. */
    private static final class Model {
        final int most;
        final List<Entry> entries = new ArrayList<>();
        List<Integer> text = new ArrayList<>();
        List<Integer> gone = new ArrayList<>();
        int now;
        int came;
        boolean on;

        Model(int most) {
            this.most = most < 1 ? 1 : most > 1024 ? 1024 : most;
        }

        int put(int b) {
            if (text.size() == 256) {
                return NONE;
            }
            text.add(Math.floorMod(b, 256));
            return text.size();
        }

        int insert(int number, int time) {
            List<Integer> given = text;
            text = new ArrayList<>();
            if (given.isEmpty()) {
                return 1;
            }
            if (time <= now) {
                return 2;
            }
            if (entries.size() == most) {
                return 3;
            }
            Entry entry = new Entry();
            entry.number = number;
            entry.time = time;
            entry.came = came++;
            entry.bytes = given;
            entries.add(entry);
            return 0;
        }

        int remove(int number) {
            int before = entries.size();
            entries.removeIf(entry -> entry.number == number);
            return before - entries.size();
        }

        int removeSpan(int from, int to) {
            int before = entries.size();
            entries.removeIf(entry -> from <= entry.time && entry.time <= to);
            return before - entries.size();
        }

        int shift(List<Entry> chosen, int by) {
            for (Entry entry : chosen) {
                if (entry.time + by <= now || entry.time + by > Integer.MAX_VALUE) {
                    return NONE;
                }
            }
            for (Entry entry : chosen) {
                entry.time += by;
            }
            return chosen.size();
        }

        List<Entry> span(int from, int to) {
            List<Entry> chosen = new ArrayList<>();
            for (Entry entry : entries) {
                if (from <= entry.time && entry.time <= to) {
                    chosen.add(entry);
                }
            }
            return chosen;
        }

        Entry inOrder(int k) {
            for (Entry entry : entries) {
                int before = 0;
                for (Entry other : entries) {
                    if (other.time < entry.time || other.time == entry.time && other.came < entry.came) {
                        before++;
                    }
                }
                if (before == k) {
                    return entry;
                }
            }
            return null;
        }

        int leave() {
            Entry first = inOrder(0);
            if (first == null || first.time > now) {
                return NONE;
            }
            entries.remove(first);
            gone = first.bytes;
            return gone.size();
        }

        int count(int what) {
            return what == 0 ? now : what == 1 ? entries.size() : what == 2 ? came : what == 3 ? gone.size() : NONE;
        }

        int about(int k, int what) {
            Entry entry = inOrder(k);
            if (entry == null) {
                return NONE;
            }
            return what == 0 ? entry.number : what == 1 ? (int) entry.time : what == 2 ? entry.bytes.size() : NONE;
        }

        int byteAt(int k, int j) {
            Entry entry = inOrder(k);
            return entry == null ? NONE : byteOf(entry.bytes, j);
        }

        static int byteOf(List<Integer> bytes, int j) {
            return j >= 0 && j < bytes.size() ? bytes.get(j) : NONE;
        }
    }

    private final Checks checks;
    private final Random random;
    private final int most;
    private final TimeTable table;
    private final Model model;
    private final int spread;
    private final int[] weights;
    private int calls;

    private ModelTest(Checks checks, int seed) {
        this.checks = checks;
        random = new Random(seed);
        most = random.nextInt(4) == 0 ? edge() : random.nextInt(12);
        table = new TimeTable(most);
        model = new Model(most);
        spread = 1 + random.nextInt(random.nextBoolean() ? 4 : 40);
        weights = new int[15];
        for (int w = 0; w < weights.length; w++) {
            weights[w] = 1 + random.nextInt(6);
        }
        // Without many of these most runs would hold few entries.
        weights[0] += random.nextInt(40);
        weights[1] += random.nextInt(40);
        weights[9] = random.nextInt(3) == 0 ? weights[9] : 0;
        checks.in("seed " + seed + ", most " + most);
    }

    public static void main(String[] args) {
        Checks checks = new Checks();
        for (int seed = 0; seed < RUNS && checks.wrong() == 0; seed++) {
            new ModelTest(checks, seed).run();
        }
        checks.end();
    }

    private void run() {
        while (calls < CALLS && checks.wrong() == 0) {
            callOne(pick());
        }
    }

    private int pick() {
        int sum = 0;
        for (int weight : weights) {
            sum += weight;
        }
        int at = random.nextInt(sum);
        int kind = 0;
        while (at >= weights[kind]) {
            at -= weights[kind];
            kind++;
        }
        return kind;
    }

    private void callOne(int kind) {
        switch (kind) {
            case 0: putSome(); break;
            case 1: insertOne(); break;
            case 2: removeOne(); break;
            case 3: removeSome(); break;
            case 4: shiftAll(); break;
            case 5: case 6: shiftSome(); break;
            case 7: enableOne(); break;
            case 8: due("isOn()", table.isOn() ? 1 : 0, model.on ? 1 : 0); break;
            case 9: resetOne(); break;
            case 10: due("tick()", table.tick(), ++model.now); break;
            case 11: due("leave()", table.leave(), model.leave()); break;
            case 12: leftOne(); break;
            case 13: countOne(); break;
            default: lookAtOne(); break;
        }
    }

    private void putSome() {
        int many = random.nextInt(30) == 0 ? 260 : 1 + random.nextInt(2);
        for (int n = 0; n < many && calls < CALLS; n++) {
            int b = any(300);
            due("put(" + b + ")", table.put(b), model.put(b));
        }
    }

    private void insertOne() {
        int number = any(5);
        int time = time();
        due("insert(" + number + ", " + time + ")", table.insert(number, time), model.insert(number, time));
    }

    private void removeOne() {
        int number = any(5);
        due("remove(" + number + ")", table.remove(number), model.remove(number));
    }

    private void removeSome() {
        int from = time();
        int to = random.nextInt(3) == 0 ? time() : from;
        due("removeSpan(" + from + ", " + to + ")", table.removeSpan(from, to), model.removeSpan(from, to));
    }

    private void shiftAll() {
        int by = any(spread) - random.nextInt(spread);
        due("shift(" + by + ")", table.shift(by), model.shift(model.entries, by));
    }

    private void shiftSome() {
        int from = time();
        int to = random.nextBoolean() ? time() : from;
        int by = any(spread) - random.nextInt(spread);
        due("shiftSpan(" + from + ", " + to + ", " + by + ")",
            table.shiftSpan(from, to, by), model.shift(model.span(from, to), by));
    }

    private void enableOne() {
        boolean on = random.nextBoolean();
        table.enable(on);
        model.on = on;
        calls++;
    }

    private void resetOne() {
        table.reset();
        model.entries.clear();
        model.on = false;
        calls++;
    }

    private void leftOne() {
        int j = any(model.gone.size() + 2);
        due("left(" + j + ")", table.left(j), Model.byteOf(model.gone, j));
    }

    private void countOne() {
        int what = any(4);
        due("count(" + what + ")", table.count(what), model.count(what));
    }

    private void lookAtOne() {
        int k = any(model.entries.size() + 1);
        int what = any(3);
        due("about(" + k + ", " + what + ")", table.about(k, what), model.about(k, what));
        if (calls < CALLS) {
            int j = any(3);
            due("byteAt(" + k + ", " + j + ")", table.byteAt(k, j), model.byteAt(k, j));
        }
    }

    /** Mostly from 0 up to a bound, sometimes far off. */
    private int any(int bound) {
        return random.nextInt(12) == 0 ? edge() : random.nextInt(bound);
    }

    private int time() {
        return random.nextInt(15) == 0 ? edge() : model.now + random.nextInt(spread + 1);
    }

    private int edge() {
        return EDGES[random.nextInt(EDGES.length)];
    }

    private void due(String call, int got, int want) {
        calls++;
        checks.due("call " + calls + ", " + call, got, want);
    }
}
