import java.util.Random;

/** Runs of 512 calls against the plain model of the document; the seeds are fixed. */
public final class ModelTest {
    private static final int CALLS = 512;
    private static final int RUNS = 6000;
    private static final int[] EDGES = {
        Integer.MIN_VALUE, Integer.MIN_VALUE + 1, -256, -1, 0, 1, 255, 256, 257, 1024, 1025,
        Integer.MAX_VALUE - 1, Integer.MAX_VALUE};

    private final Checks checks;
    private final Random random;
    private final int most;
    private final TimeTable table;
    private final Model model;
    private final int spread;
    private final int[] weights;
    private int calls;

    private ModelTest(Checks checks, int seed) {
        this.checks = checks;
        random = new Random(seed);
        most = random.nextInt(4) == 0 ? edge() : random.nextInt(12);
        table = new TimeTable(most);
        model = new Model(most);
        spread = 1 + random.nextInt(random.nextBoolean() ? 4 : 40);
        weights = new int[15];
        for (int w = 0; w < weights.length; w++) {
            weights[w] = 1 + random.nextInt(6);
        }
        // Without many of these most runs would hold few entries.
        weights[0] += random.nextInt(40);
        weights[1] += random.nextInt(40);
        weights[9] = random.nextInt(3) == 0 ? weights[9] : 0;
        checks.in("seed " + seed + ", most " + most);
    }

    public static void main(String[] args) {
        Checks checks = new Checks();
        for (int seed = 0; seed < RUNS && checks.wrong() == 0; seed++) {
            new ModelTest(checks, seed).run();
        }
        checks.end();
    }

    private void run() {
        while (calls < CALLS && checks.wrong() == 0) {
            callOne(pick());
        }
    }

    private int pick() {
        int sum = 0;
        for (int weight : weights) {
            sum += weight;
        }
        int at = random.nextInt(sum);
        int kind = 0;
        while (at >= weights[kind]) {
            at -= weights[kind];
            kind++;
        }
        return kind;
    }

    private void callOne(int kind) {
        switch (kind) {
            case 0: putSome(); break;
            case 1: insertOne(); break;
            case 2: removeOne(); break;
            case 3: removeSome(); break;
            case 4: shiftAll(); break;
            case 5: case 6: shiftSome(); break;
            case 7: enableOne(); break;
            case 8: due("isOn()", table.isOn() ? 1 : 0, model.on ? 1 : 0); break;
            case 9: resetOne(); break;
            case 10: due("tick()", table.tick(), model.tick()); break;
            case 11: due("leave()", table.leave(), model.leave()); break;
            case 12: leftOne(); break;
            case 13: countOne(); break;
            default: lookAtOne(); break;
        }
    }

    private void putSome() {
        int many = random.nextInt(30) == 0 ? 260 : 1 + random.nextInt(2);
        for (int n = 0; n < many && calls < CALLS; n++) {
            int b = any(300);
            due("put(" + b + ")", table.put(b), model.put(b));
        }
    }

    private void insertOne() {
        int number = any(5);
        int time = time();
        due("insert(" + number + ", " + time + ")", table.insert(number, time), model.insert(number, time));
    }

    private void removeOne() {
        int number = any(5);
        due("remove(" + number + ")", table.remove(number), model.remove(number));
    }

    private void removeSome() {
        int from = time();
        int to = random.nextInt(3) == 0 ? time() : from;
        due("removeSpan(" + from + ", " + to + ")", table.removeSpan(from, to), model.removeSpan(from, to));
    }

    private void shiftAll() {
        int by = any(spread) - random.nextInt(spread);
        due("shift(" + by + ")", table.shift(by), model.shift(by));
    }

    private void shiftSome() {
        int from = time();
        int to = random.nextBoolean() ? time() : from;
        int by = any(spread) - random.nextInt(spread);
        due("shiftSpan(" + from + ", " + to + ", " + by + ")",
            table.shiftSpan(from, to, by), model.shiftSpan(from, to, by));
    }

    private void enableOne() {
        boolean on = random.nextBoolean();
        table.enable(on);
        model.on = on;
        calls++;
    }

    private void resetOne() {
        table.reset();
        model.reset();
        calls++;
    }

    private void leftOne() {
        int j = any(model.gone.size() + 2);
        due("left(" + j + ")", table.left(j), model.left(j));
    }

    private void countOne() {
        int what = any(4);
        due("count(" + what + ")", table.count(what), model.count(what));
    }

    private void lookAtOne() {
        int k = any(model.entries.size() + 1);
        int what = any(3);
        due("about(" + k + ", " + what + ")", table.about(k, what), model.about(k, what));
        if (calls < CALLS) {
            int j = any(3);
            due("byteAt(" + k + ", " + j + ")", table.byteAt(k, j), model.byteAt(k, j));
        }
    }

    /** Mostly from 0 up to a bound, sometimes far off. */
    private int any(int bound) {
        return random.nextInt(12) == 0 ? edge() : random.nextInt(bound);
    }

    private int time() {
        return random.nextInt(15) == 0 ? edge() : model.now + random.nextInt(spread + 1);
    }

    private int edge() {
        return EDGES[random.nextInt(EDGES.length)];
    }

    private void due(String call, int got, int want) {
        calls++;
        checks.due("call " + calls + ", " + call, got, want);
    }
}
