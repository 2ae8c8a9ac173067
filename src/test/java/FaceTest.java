import java.lang.reflect.Constructor;
import java.lang.reflect.Field;
import java.lang.reflect.Method;
import java.lang.reflect.Modifier;
import java.util.Arrays;
import java.util.Set;
import java.util.TreeSet;

/** The public face, and nothing beside it; and what can be seen of LANGUAGE.md's rules 1, 2, 3, 5 and 11 in the compiled classes. */
public final class FaceTest {
    private static final String[] METHODS = {
        "int row(int,int,int,int,int,int)", "int drop(int)", "int draws(int,int)", "int count(int)",
        "int budget(int,int)", "int ledger(int,int)", "int type(long,int)", "int read()", "int question(int,int)",
        "int wants(int)", "int run(int)", "int told(int)", "int noise(int,int)", "int print()",
        "int share(int,int,int)", "int out(int)", "boolean within(int,int,int)"};
    private static final String[] CONSTANTS = {
        "NONE=-1", "UNKNOWN=-101", "OUTSIDE=-102", "STATE=-103", "POOR=-104", "SHORT=-105", "ROOM=-106"};
    private static final Set<String> CONSTANT_TYPES = Set.of("int", "long", "boolean", "char", "java.lang.String",
        "int[]", "long[]", "char[]", "byte[]");
    private static final Set<String> FIELD_TYPES = Set.of("int", "long", "short", "byte", "char", "boolean",
        "int[]", "long[]", "short[]", "byte[]", "char[]", "boolean[]", "int[][]", "long[][]", "java.lang.String");

    public static void main(String[] args) throws IllegalAccessException {
        Check check = new Check();
        Class<?> face = PrivateQueries.class;
        check.due("public final", true, Modifier.isPublic(face.getModifiers()) && Modifier.isFinal(face.getModifiers()));
        check.due("methods", new TreeSet<>(Arrays.asList(METHODS)).toString(), visibleMethods(face).toString());
        check.due("constants", new TreeSet<>(Arrays.asList(CONSTANTS)).toString(), visibleConstants(face).toString());
        Constructor<?>[] constructors = face.getDeclaredConstructors();
        check.due("constructors", 1, constructors.length);
        check.due("constructor", "public PrivateQueries(int,int)", constructors[0].toString());
        for (Class<?> inside : face.getDeclaredClasses()) {
            check.due(inside + " is static", true, Modifier.isStatic(inside.getModifiers()));
            check.due(inside + " is not public", false, Modifier.isPublic(inside.getModifiers()));
            checkFields(check, inside);
            checkNames(check, face, inside);
        }
        checkFields(check, face);
        checkNames(check, face, face);
        check.end();
    }

    private static TreeSet<String> visibleMethods(Class<?> face) {
        TreeSet<String> all = new TreeSet<>();
        for (Method method : face.getDeclaredMethods()) {
            if (!Modifier.isPrivate(method.getModifiers())) {
                String parameters = Arrays.toString(Arrays.stream(method.getParameterTypes()).map(Class::getName).toArray());
                all.add(method.getReturnType() + " " + method.getName()
                    + parameters.replace("[", "(").replace("]", ")").replace(", ", ","));
            }
        }
        return all;
    }

    private static TreeSet<String> visibleConstants(Class<?> face) throws IllegalAccessException {
        TreeSet<String> all = new TreeSet<>();
        for (Field field : face.getDeclaredFields()) {
            if (!Modifier.isPrivate(field.getModifiers())) {
                all.add(field.getName() + "=" + field.get(null));
            }
        }
        return all;
    }

    private static void checkFields(Check check, Class<?> one) {
        int fields = 0;
        for (Field field : one.getDeclaredFields()) {
            if (Modifier.isStatic(field.getModifiers())) {
                check.due(field + " is final", true, Modifier.isFinal(field.getModifiers()));
                check.due(field + " is a constant", true, CONSTANT_TYPES.contains(field.getType().getTypeName()));
            } else {
                fields++;
                check.due(field + " has a type of the rules", true, isFieldType(field.getType()));
            }
        }
        check.due("the fields of " + one + " are at most 20", true, fields <= 20);
    }

    /** A number, a text, an own class, or an array of these. */
    private static boolean isFieldType(Class<?> type) {
        Class<?> element = type.isArray() ? type.getComponentType() : type;
        return FIELD_TYPES.contains(type.getTypeName()) || element.getDeclaringClass() == PrivateQueries.class;
    }

    /** No method that is not of the face bears the name of one that is. */
    private static void checkNames(Check check, Class<?> face, Class<?> one) {
        TreeSet<String> names = new TreeSet<>();
        for (Method method : face.getDeclaredMethods()) {
            if (Modifier.isPublic(method.getModifiers())) {
                names.add(method.getName());
            }
        }
        for (Method method : one.getDeclaredMethods()) {
            boolean ofTheFace = one == face && Modifier.isPublic(method.getModifiers());
            check.due(method + " bears a public name", false, !ofTheFace && names.contains(method.getName()));
        }
    }
}
