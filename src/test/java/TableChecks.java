/** What the tests of single runs share: short names, and a table's state as a text. */
abstract class TableChecks {
    static final int NONE = TimeTable.NONE;
    static final int MIN = Integer.MIN_VALUE;
    static final int MAX = Integer.MAX_VALUE;
    static final Checks CHECKS = new Checks();

    static int add(TimeTable x, int number, int time, int... bytes) {
        for (int b : bytes) {
            x.put(b);
        }
        return x.insert(number, time);
    }

    static void tick(TimeTable x, int times) {
        for (int n = 0; n < times; n++) {
            x.tick();
        }
    }

    /** All that wait, in order: number@time[bytes]. */
    static String table(TimeTable x) {
        StringBuilder all = new StringBuilder();
        int waiting = x.count(1);
        for (int k = 0; k < waiting; k++) {
            all.append(k == 0 ? "" : " ").append(x.about(k, 0)).append('@').append(x.about(k, 1)).append('[');
            int bytes = x.about(k, 2);
            for (int j = 0; j < bytes; j++) {
                all.append(j == 0 ? "" : " ").append(x.byteAt(k, j));
            }
            all.append(']');
        }
        return all.toString();
    }

    /** What table() says of the k-th that came, if it has the number k and the one byte 10 + k. */
    static String entry(int k, int time) {
        return k + "@" + time + "[" + (10 + k) + "]";
    }

    /** What table() says of such entries, the k-th that came for times[k]. */
    static String inOrder(int[] times) {
        int[] whose = new int[times.length];
        for (int k = 0; k < times.length; k++) {
            int place = 0;
            for (int other = 0; other < times.length; other++) {
                if (times[other] < times[k] || times[other] == times[k] && other < k) {
                    place++;
                }
            }
            whose[place] = k;
        }
        StringBuilder all = new StringBuilder();
        for (int k : whose) {
            all.append(all.length() == 0 ? "" : " ").append(entry(k, times[k]));
        }
        return all.toString();
    }

    /** The bytes of what left. */
    static String gone(TimeTable x) {
        StringBuilder all = new StringBuilder();
        int bytes = x.count(3);
        for (int j = 0; j < bytes; j++) {
            all.append(j == 0 ? "" : " ").append(x.left(j));
        }
        return all.toString();
    }

    /** All but the text, which no call shows without a change to it. */
    static String state(TimeTable x) {
        return "now " + x.count(0) + (x.isOn() ? " on" : " off") + ", " + x.count(2) + " waited, left "
            + gone(x) + ", waiting " + table(x);
    }

    static void due(String call, int got, int want) {
        CHECKS.due(call, got, want);
    }

    static void due(String call, boolean got, boolean want) {
        CHECKS.due(call, got, want);
    }

    static void due(String call, String got, String want) {
        CHECKS.due(call, got, want);
    }
}
