import java.lang.reflect.Constructor;
import java.lang.reflect.Field;
import java.lang.reflect.Method;
import java.lang.reflect.Modifier;
import java.util.HashSet;
import java.util.Set;

/** The public face: its constants, methods, exceptions, and nothing beside them that is not private. */
final class FaceTest {
    private static final String N = "IndexOutOfBoundsException";
    private static final String A = "IllegalArgumentException";
    private static final String S = "IllegalStateException";

    public static void main(String[] args) {
        classItself();
        constants();
        methods();
        Check.close("FaceTest");
    }

    private static void classItself() {
        int m = ChitWright.class.getModifiers();
        Check.due("class is public and final", true, Modifier.isPublic(m) && Modifier.isFinal(m));
        Constructor<?>[] made = ChitWright.class.getDeclaredConstructors();
        Check.due("one constructor", 1, made.length);
        Check.due("public, without parameters", true, Modifier.isPublic(made[0].getModifiers()) && made[0].getParameterCount() == 0);
        for (Class<?> inside : ChitWright.class.getDeclaredClasses()) {
            int im = inside.getModifiers();
            Check.due(inside.getName() + " is static and not public", true, Modifier.isStatic(im) && !Modifier.isPublic(im) && !Modifier.isProtected(im));
        }
    }

    private static void constants() {
        String[] names = {"NONE", "DRAFT", "SENT", "APPROVED", "REFUSED", "ORDERED", "ENDED", "HELD", "BOOKED", "PAID",
            "COST", "OWED", "BANK", "TAX", "RATES", "DISCOUNTS", "ADVANCES", "CARD", "STAFF"};
        int[] values = {-1, 0, 1, 2, 3, 4, 5, 0, 1, 2, 0, 1, 2, 3, 4, 5, 6, 7, 8};
        int open = 0;
        for (Field field : ChitWright.class.getDeclaredFields()) {
            if (!Modifier.isPrivate(field.getModifiers())) {
                open++;
            }
            if (Modifier.isStatic(field.getModifiers())) {
                Check.due(field.getName() + " is final", true, Modifier.isFinal(field.getModifiers()));
            }
        }
        Check.due("open fields", names.length, open);
        for (int i = 0; i < names.length; i++) {
            try {
                Field field = ChitWright.class.getField(names[i]);
                Check.due(names[i] + " is an int", true, field.getType() == int.class);
                Check.due(names[i], values[i], field.getInt(null));
            } catch (ReflectiveOperationException e) {
                Check.due(names[i] + " is there", true, false);
            }
        }
    }

    private static void methods() {
        String[] face = {
            "int person int int " + N + " " + A + " " + S, "void absent int int int " + N + " " + A, "int controller int " + N,
            "long budget int int int " + N + " " + A, "long transfer int int int int " + N + " " + A + " " + S,
            "boolean soft int boolean " + N, "int carried int " + A, "void supplier int int int int int int " + N + " " + A,
            "int rate int int " + N + " " + A, "void taxes int int " + A, "int pass int " + A + " " + S,
            "int request int int " + N + " " + S, "int line int boolean int int " + N + " " + A + " " + S, "int send int " + N + " " + S,
            "int approve int int " + N + " " + S, "void refuse int int " + N + " " + S, "int edit int int int " + N + " " + A + " " + S,
            "void order int int " + N + " " + S, "int receive int int int " + N + " " + A + " " + S,
            "int change int int int " + N + " " + A + " " + S, "long end int " + N + " " + S,
            "int invoice int int int int " + N + " " + A + " " + S, "boolean letGo int int " + N + " " + S, "int run int boolean " + A,
            "long bounce int " + N + " " + S, "void goOn int " + N + " " + S, "int place int int " + N + " " + A,
            "int trip int int int int int int int " + N + " " + A + " " + S, "long advance int int " + N + " " + A, "long settle int " + N,
            "int card int int " + N + " " + A + " " + S, "long tell int int int " + N + " " + A + " " + S, "long payCard",
            "void sample int int " + A, "int day", "long centre int int int " + N + " " + A, "long requestOf int int " + N + " " + A,
            "int next int " + N, "int lineOf int int int " + N + " " + A, "long invoiceOf int int " + N + " " + A,
            "long staff int int " + N + " " + A, "long tripCost int " + N, "boolean isTold int " + N, "long account int " + N,
            "boolean isSampled int int " + A + " " + N};
        Set<String> found = new HashSet<>();
        Set<String> names = new HashSet<>();
        for (Method method : ChitWright.class.getDeclaredMethods()) {
            if (!Modifier.isPrivate(method.getModifiers())) {
                found.add(told(method));
                names.add(method.getName());
            }
        }
        Check.due("open methods", face.length, found.size());
        for (String row : face) {
            Check.due(row, true, found.contains(row));
        }
        for (Method method : ChitWright.class.getDeclaredMethods()) {
            if (Modifier.isPrivate(method.getModifiers())) {
                Check.due(method.getName() + " bears no name of the face", false, names.contains(method.getName()));
            }
        }
    }

    private static String told(Method method) {
        StringBuilder text = new StringBuilder();
        text.append(method.getReturnType().getName()).append(' ').append(method.getName());
        for (Class<?> type : method.getParameterTypes()) {
            text.append(' ').append(type.getName());
        }
        for (Class<?> type : method.getExceptionTypes()) {
            text.append(' ').append(type.getSimpleName());
        }
        return text.toString();
    }
}
