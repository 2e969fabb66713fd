import java.lang.reflect.Constructor;
import java.lang.reflect.Field;
import java.lang.reflect.Method;
import java.lang.reflect.Modifier;
import java.util.Arrays;
import java.util.Set;
import java.util.TreeSet;

/** The public face is the document's, just so, and LANGUAGE.md's rule 1 holds. */
public final class FaceTest {
    private static final String[] FACE = {
        "int change(int,int)", "int thing(int,int)", "int rest(int)", "int lean(int)", "int fact(int,long)",
        "int check(int)", "int drop(int)", "int usable(int)", "int of(int,int)", "long value(int)", "int save(int)",
        "int open()", "int disk(int)", "int poke(int,int)", "int told(int)", "int pack(int,boolean)", "int take()",
        "int shelf(int,int)", "int swap()", "int move(int,int,int)", "int item(int)", "int set(int,int)"};
    private static final String[] CONSTANTS = {"BAD -1", "NO -2", "FULL -3", "NONE -4", "DARK -5"};

    private static final Due due = new Due();

    public static void main(String[] args) throws IllegalAccessException {
        due.is("public and final", FactLog.class.getModifiers(), Modifier.PUBLIC | Modifier.FINAL);
        methods();
        constants();
        constructors();
        classesInside();
        due.end();
    }

    private static void same(String what, Set<String> got, String... want) {
        due.is(what + " " + got, got.equals(new TreeSet<>(Arrays.asList(want))) ? 1 : 0, 1);
    }

    private static void methods() {
        Set<String> open = new TreeSet<>();
        Set<String> names = new TreeSet<>();
        Set<String> throwing = new TreeSet<>();
        for (Method method : FactLog.class.getDeclaredMethods()) {
            if (Modifier.isPrivate(method.getModifiers()) || method.isSynthetic()) continue;
            due.is(method + " is public alone", method.getModifiers(), Modifier.PUBLIC);
            open.add(signature(method));
            names.add(method.getName());
            for (Class<?> type : method.getExceptionTypes()) throwing.add(method.getName() + " " + type.getSimpleName());
        }
        same("methods", open, FACE);
        same("throws", throwing, "disk ArrayIndexOutOfBoundsException", "poke ArrayIndexOutOfBoundsException");
        for (Method method : FactLog.class.getDeclaredMethods()) {
            if (Modifier.isPrivate(method.getModifiers())) due.is(method.getName(), names.contains(method.getName()) ? 1 : 0, 0);
        }
    }

    private static String signature(Method method) {
        StringBuilder types = new StringBuilder();
        for (Class<?> type : method.getParameterTypes()) types.append(types.length() == 0 ? "" : ",").append(type);
        return method.getReturnType() + " " + method.getName() + "(" + types + ")";
    }

    private static void constants() throws IllegalAccessException {
        Set<String> open = new TreeSet<>();
        for (Field field : FactLog.class.getDeclaredFields()) {
            boolean fixed = Modifier.isStatic(field.getModifiers());
            if (fixed) due.is(field + " is final", field.getModifiers() & Modifier.FINAL, Modifier.FINAL);
            if (Modifier.isPrivate(field.getModifiers())) continue;
            due.is(field + " is public", field.getModifiers(), Modifier.PUBLIC | Modifier.STATIC | Modifier.FINAL);
            if (fixed) open.add(field.getName() + " " + field.getInt(null));
        }
        same("constants", open, CONSTANTS);
    }

    private static void constructors() {
        Constructor<?>[] all = FactLog.class.getDeclaredConstructors();
        due.is("constructors", all.length, 1);
        due.is("the constructor is public", all[0].getModifiers(), Modifier.PUBLIC);
        due.is("the constructor's parameters", all[0].getParameterCount(), 0);
    }

    private static void classesInside() {
        for (Class<?> inside : FactLog.class.getDeclaredClasses()) {
            int how = inside.getModifiers();
            due.is(inside + " is static", how & Modifier.STATIC, Modifier.STATIC);
            due.is(inside + " is not open", how & (Modifier.PUBLIC | Modifier.PROTECTED), 0);
        }
    }
}
