import java.util.ArrayList;
import java.util.List;

/** The plainest model of the document: it holds the entries as they came and looks for the order each time anew. */
final class Model {
    private static final int NONE = TimeTable.NONE;

    static final class Entry {
        int number;
        long time;
        int came;
        List<Integer> bytes;
    }

    final int most;
    final List<Entry> entries = new ArrayList<>();
    List<Integer> text = new ArrayList<>();
    List<Integer> gone = new ArrayList<>();
    int now;
    int came;
    boolean on;

    Model(int most) {
        this.most = most < 1 ? 1 : most > 1024 ? 1024 : most;
    }

    int put(int b) {
        if (text.size() == 256) {
            return NONE;
        }
        text.add(Math.floorMod(b, 256));
        return text.size();
    }

    int insert(int number, int time) {
        List<Integer> given = text;
        text = new ArrayList<>();
        if (given.isEmpty()) {
            return 1;
        }
        if (time <= now) {
            return 2;
        }
        if (entries.size() == most) {
            return 3;
        }
        Entry entry = new Entry();
        entry.number = number;
        entry.time = time;
        entry.came = came++;
        entry.bytes = given;
        entries.add(entry);
        return 0;
    }

    int remove(int number) {
        int before = entries.size();
        entries.removeIf(entry -> entry.number == number);
        return before - entries.size();
    }

    int removeSpan(int from, int to) {
        int before = entries.size();
        entries.removeIf(entry -> from <= entry.time && entry.time <= to);
        return before - entries.size();
    }

    int shift(int by) {
        return shiftThose(entries, by);
    }

    int shiftSpan(int from, int to, int by) {
        List<Entry> chosen = new ArrayList<>();
        for (Entry entry : entries) {
            if (from <= entry.time && entry.time <= to) {
                chosen.add(entry);
            }
        }
        return shiftThose(chosen, by);
    }

    private int shiftThose(List<Entry> chosen, int by) {
        for (Entry entry : chosen) {
            if (entry.time + by <= now || entry.time + by > Integer.MAX_VALUE) {
                return NONE;
            }
        }
        for (Entry entry : chosen) {
            entry.time += by;
        }
        return chosen.size();
    }

    void reset() {
        entries.clear();
        on = false;
    }

    int tick() {
        return now == Integer.MAX_VALUE ? NONE : ++now;
    }

    int leave() {
        Entry first = inOrder(0);
        if (first == null || first.time > now) {
            return NONE;
        }
        entries.remove(first);
        gone = first.bytes;
        return gone.size();
    }

    int left(int j) {
        return byteOf(gone, j);
    }

    int count(int what) {
        return what == 0 ? now : what == 1 ? entries.size() : what == 2 ? came : what == 3 ? gone.size() : NONE;
    }

    int about(int k, int what) {
        Entry entry = inOrder(k);
        if (entry == null) {
            return NONE;
        }
        return what == 0 ? entry.number : what == 1 ? (int) entry.time : what == 2 ? entry.bytes.size() : NONE;
    }

    int byteAt(int k, int j) {
        Entry entry = inOrder(k);
        return entry == null ? NONE : byteOf(entry.bytes, j);
    }

    private Entry inOrder(int k) {
        for (Entry entry : entries) {
            int before = 0;
            for (Entry other : entries) {
                if (other.time < entry.time || other.time == entry.time && other.came < entry.came) {
                    before++;
                }
            }
            if (before == k) {
                return entry;
            }
        }
        return null;
    }

    private static int byteOf(List<Integer> bytes, int j) {
        return j >= 0 && j < bytes.size() ? bytes.get(j) : NONE;
    }
}
