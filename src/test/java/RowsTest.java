import java.lang.reflect.Array;
import java.lang.reflect.Field;
import java.lang.reflect.Modifier;
import java.util.ArrayList;
import java.util.IdentityHashMap;
import java.util.List;
import java.util.Map;

/** An object keeps to the rows it was made with, whatever it is asked. */
public final class RowsTest {
    /** Objects of a run of calls share one room, and there may be many of them. */
    private static final int MOST_ELEMENTS = 2000;

    private int elements = 0;
    private final Map<Object, Boolean> found = new IdentityHashMap<>();

    public static void main(String[] args) throws IllegalAccessException {
        Check.sentence("All memory is rows made once.");
        DaySimulate d = new DaySimulate();
        RowsTest before = new RowsTest();
        before.walk(d);
        for (String call : calls()) {
            Asked.of(d, call);
            RowsTest now = new RowsTest();
            now.walk(d);
            Check.holds("no new row behind " + call, now.found.keySet().equals(before.found.keySet()));
            Check.holds("as many elements behind " + call, now.elements == before.elements);
        }
        Check.holds("they are few", before.elements < MOST_ELEMENTS);
        Check.finish();
    }

    private static List<String> calls() {
        List<String> calls = new ArrayList<>();
        for (int k = 0; k < 13; k++) {
            calls.add("station " + k + " " + 7 * k);
            calls.add("area " + 7 * k + " " + k + " " + 5 * k);
            calls.add("unit " + k % 4);
        }
        for (int v = 0; v < 5; v++) {
            calls.add("change " + v + " 1 3");
            calls.add("change " + v + " 2 -1");
            calls.add("run " + v + " -7 999 60");
            calls.add("run " + v + " 7 3 0");
            calls.add("unlucky " + v + " 7 8 3 60");
            calls.add("compare " + v + " 1 7 980 20 " + v);
            calls.add("run " + v + " -7 999 61");
        }
        for (String call : new String[] {"rules 9 1000", "rules 0 0", "run 1 5 5 60", "call 59 4", "call 60 4", "share 0",
            "share 1", "mean", "missed", "work 3", "worst", "arrived 9999"}) {
            calls.add(call);
        }
        return calls;
    }

    private void walk(Object from) throws IllegalAccessException {
        if (from == null || found.put(from, true) != null) {
            return;
        }
        if (from.getClass().isArray()) {
            elements += Array.getLength(from);
            if (!from.getClass().getComponentType().isPrimitive()) {
                for (Object inside : (Object[]) from) {
                    walk(inside);
                }
            }
            return;
        }
        for (Field field : from.getClass().getDeclaredFields()) {
            if (Modifier.isStatic(field.getModifiers())) {
                continue;
            }
            elements++;
            if (!field.getType().isPrimitive()) {
                field.setAccessible(true);
                walk(field.get(from));
            }
        }
    }
}
