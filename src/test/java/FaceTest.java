import java.lang.reflect.Constructor;
import java.lang.reflect.Field;
import java.lang.reflect.Method;
import java.lang.reflect.Modifier;
import java.util.Arrays;
import java.util.Set;
import java.util.TreeSet;

/** The public face is the document's, and nothing else can be seen. */
public final class FaceTest {
    private static final String[] FACE = {
        "public static final int TimeTable.NONE",
        "public TimeTable(int)",
        "public int TimeTable.put(int)",
        "public int TimeTable.insert(int,int)",
        "public int TimeTable.remove(int)",
        "public int TimeTable.removeSpan(int,int)",
        "public int TimeTable.shift(int)",
        "public int TimeTable.shiftSpan(int,int,int)",
        "public void TimeTable.enable(boolean)",
        "public boolean TimeTable.isOn()",
        "public void TimeTable.reset()",
        "public int TimeTable.tick()",
        "public int TimeTable.leave()",
        "public int TimeTable.left(int)",
        "public int TimeTable.count(int)",
        "public int TimeTable.about(int,int)",
        "public int TimeTable.byteAt(int,int)"};

    public static void main(String[] args) {
        Checks checks = new Checks();
        checks.in("face");
        checks.due("modifiers", Modifier.toString(TimeTable.class.getModifiers()), "public final");
        checks.due("members", visible().toString(), new TreeSet<>(Arrays.asList(FACE)).toString());
        checks.due("NONE", TimeTable.NONE, -1);
        for (String name : twiceNamed()) {
            checks.fail(name + " is a private method's name and a public one's");
        }
        for (Field field : TimeTable.class.getDeclaredFields()) {
            if (Modifier.isStatic(field.getModifiers()) && !Modifier.isFinal(field.getModifiers())) {
                checks.fail(field + " is static and not final");
            }
        }
        checks.end();
    }

    private static Set<String> visible() {
        Set<String> seen = new TreeSet<>();
        for (Field field : TimeTable.class.getDeclaredFields()) {
            if (!Modifier.isPrivate(field.getModifiers())) {
                seen.add(field.toString());
            }
        }
        for (Constructor<?> constructor : TimeTable.class.getDeclaredConstructors()) {
            if (!Modifier.isPrivate(constructor.getModifiers())) {
                seen.add(constructor.toString());
            }
        }
        for (Method method : TimeTable.class.getDeclaredMethods()) {
            if (!Modifier.isPrivate(method.getModifiers())) {
                seen.add(method.toString());
            }
        }
        return seen;
    }

    private static Set<String> twiceNamed() {
        Set<String> open = new TreeSet<>();
        Set<String> closed = new TreeSet<>();
        for (Method method : TimeTable.class.getDeclaredMethods()) {
            (Modifier.isPrivate(method.getModifiers()) ? closed : open).add(method.getName());
        }
        open.retainAll(closed);
        return open;
    }
}
