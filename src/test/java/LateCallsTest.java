import java.util.Random;

/** Past its 512th call an object's answers are free, but no call ever throws. */
public final class LateCallsTest {
    private static final int[] EDGES = {
        Integer.MIN_VALUE, -257, -1, 0, 1, 2, 3, 255, 256, 511, 512, 1023, 1024, Integer.MAX_VALUE};
    private static final Random RANDOM = new Random(7);

    public static void main(String[] args) {
        Checks checks = new Checks();
        checks.in("late calls");
        for (int most : EDGES) {
            TimeTable x = new TimeTable(most);
            for (int call = 0; call < 100_000; call++) {
                callAny(x);
            }
        }
        checks.end();
    }

    private static void callAny(TimeTable x) {
        switch (RANDOM.nextInt(15)) {
            case 0: case 1: x.put(any()); break;
            case 2: case 3: x.insert(any(), any()); break;
            case 4: x.remove(any()); break;
            case 5: x.removeSpan(any(), any()); break;
            case 6: x.shift(any()); break;
            case 7: x.shiftSpan(any(), any(), any()); break;
            case 8: x.enable(!x.isOn()); break;
            case 9: x.tick(); break;
            case 10: x.leave(); break;
            case 11: x.left(any()); break;
            case 12: x.count(any()); break;
            case 13: x.about(any(), any()); x.byteAt(any(), any()); break;
            default: if (RANDOM.nextInt(50) == 0) { x.reset(); } break;
        }
    }

    private static int any() {
        return RANDOM.nextBoolean() ? EDGES[RANDOM.nextInt(EDGES.length)] : RANDOM.nextInt(600);
    }
}
