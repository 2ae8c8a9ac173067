import java.lang.reflect.Array;
import java.lang.reflect.Field;
import java.lang.reflect.Modifier;
import java.util.Collections;
import java.util.IdentityHashMap;
import java.util.Set;

/**
 * The room that an object takes: little of the 600,000 objects and 7.3 million elements that there are for all
 * calls of a run, and no more behind 512 calls than before them. LanguageTest looks at what methods make.
 */
public final class RoomTest {
    private static final int MOST_OBJECTS = 200;
    private static final int MOST_ELEMENTS = 40000;

    private final Set<Object> seen = Collections.newSetFromMap(new IdentityHashMap<>());
    private int elements;

    public static void main(String[] args) throws IllegalAccessException {
        Check check = new Check();
        PrivateQueries x = new PrivateQueries(1, 2);
        RoomTest before = new RoomTest();
        before.count(x);
        check.due("objects, at most " + MOST_OBJECTS, true, before.seen.size() <= MOST_OBJECTS);
        check.due("elements, at most " + MOST_ELEMENTS, true, before.elements <= MOST_ELEMENTS);
        use(check, x);
        RoomTest behind = new RoomTest();
        behind.count(x);
        check.due("objects behind 512 calls", before.seen.size(), behind.seen.size());
        check.due("elements behind 512 calls", before.elements, behind.elements);
        check.end();
    }

    /** 60 rows, 105 draws, 250 types, 2 budgets and 95 more. */
    private static void use(Check check, PrivateQueries x) {
        Check.rows(x, 60);
        Check.drawZeros(x, 210);
        Check.grant(x, 0, 1000, 1000);
        String text = "let g=" + "a-".repeat(980) + "b=1;count where g in 30;";
        check.due("signs", 1990, text.length());
        check.due("read()", 2, Check.read(x, text + " ".repeat(10)));
        for (int i = 0; i < 23; i++) {
            check.due("run(0)", i < 6 ? 1 : PrivateQueries.SHORT, x.run(0));
            check.due("print()", true, x.print() > 3900);
            check.due("share(15, 15, 30)", true, x.share(15, 15, 30) > 0);
            check.due("read()", -1000, x.read());
        }
        check.due("drop(0)", 59, x.drop(0));
        check.due("within(0, 30, 30)", true, x.within(0, 30, 30));
    }

    private void count(Object one) throws IllegalAccessException {
        if (one == null || !seen.add(one)) {
            return;
        }
        if (one.getClass().isArray()) {
            countArray(one);
            return;
        }
        for (Field field : one.getClass().getDeclaredFields()) {
            if (!Modifier.isStatic(field.getModifiers())) {
                elements++;
                if (!field.getType().isPrimitive()) {
                    field.setAccessible(true);
                    count(field.get(one));
                }
            }
        }
    }

    private void countArray(Object array) throws IllegalAccessException {
        elements += Array.getLength(array);
        for (int i = 0; i < Array.getLength(array) && !array.getClass().getComponentType().isPrimitive(); i++) {
            count(Array.get(array, i));
        }
    }
}
