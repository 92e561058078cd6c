import java.lang.reflect.Constructor;
import java.lang.reflect.Field;
import java.lang.reflect.Method;
import java.lang.reflect.Modifier;
import java.util.Arrays;
import java.util.Set;
import java.util.TreeSet;

/** The public face, and the rules of LANGUAGE.md that reflection can see. */
public final class FaceTest {
    private static final Due due = new Due("FaceTest");

    public static void main(String[] args) {
        constants();
        methods();
        fields();
        due.end();
    }

    private static void constants() {
        due.is("NIL", CapMembrane.NIL, -1);
        due.is("MAX_DOMAINS", CapMembrane.MAX_DOMAINS, 4);
        due.is("REGS", CapMembrane.REGS, 4);
        due.is("KIND_NONE", CapMembrane.KIND_NONE, 0);
        due.is("KIND_BOX", CapMembrane.KIND_BOX, 1);
        due.is("KIND_REVOKER", CapMembrane.KIND_REVOKER, 2);
        due.is("KIND_FORWARDER", CapMembrane.KIND_FORWARDER, 3);
        due.is("OP_NEW", CapMembrane.OP_NEW, 0);
        due.is("OP_MOV", CapMembrane.OP_MOV, 1);
        due.is("OP_GET0", CapMembrane.OP_GET0, 2);
        due.is("OP_GET1", CapMembrane.OP_GET1, 3);
        due.is("OP_SET0", CapMembrane.OP_SET0, 4);
        due.is("OP_SET1", CapMembrane.OP_SET1, 5);
        due.is("OP_POKE", CapMembrane.OP_POKE, 6);
        due.is("OP_DROP", CapMembrane.OP_DROP, 7);
        due.is("ST_READY", CapMembrane.ST_READY, 0);
        due.is("ST_NULL", CapMembrane.ST_NULL, 1);
        due.is("ST_REVOKED", CapMembrane.ST_REVOKED, 2);
        due.is("ST_FULL", CapMembrane.ST_FULL, 3);
    }

    private static void methods() {
        Set<String> want = new TreeSet<>(Arrays.asList(
            "int newDomain(int)", "int newBox(int)", "boolean give(int,int,int)",
            "boolean emit(int,int,int,int)", "int run(int,int)", "boolean revoke(int)",
            "int reg(int,int)", "int slot(int,int)", "int kind(int)", "int home(int)",
            "int link(int)", "int hits(int)", "int status(int)", "int pc(int)",
            "int parent(int)", "boolean revoked(int)"));
        Set<String> got = new TreeSet<>();
        for (Method m : CapMembrane.class.getDeclaredMethods()) {
            due.is("parameters of " + m.getName() + " are at most 7", m.getParameterCount() <= 7, true);
            if (Modifier.isPrivate(m.getModifiers())) {
                continue;
            }
            String types = Arrays.toString(m.getParameterTypes()).replaceAll("[\\[\\] ]", "");
            got.add(m.getReturnType() + " " + m.getName() + "(" + types + ")");
            due.is(m.getName() + " is public and not static", m.getModifiers(), Modifier.PUBLIC);
        }
        due.same("the list of methods", want.toString(), got.toString());
        for (Method m : CapMembrane.class.getDeclaredMethods()) {
            if (Modifier.isPrivate(m.getModifiers())) {
                due.is("private method named as a public one: " + m.getName(),
                    want.toString().contains(" " + m.getName() + "("), false);
            }
        }
        Constructor<?>[] made = CapMembrane.class.getDeclaredConstructors();
        due.is("number of constructors", made.length, 1);
        due.is("the constructor is public", Modifier.isPublic(made[0].getModifiers()), true);
        due.same("the constructor", "[int, int]", Arrays.toString(made[0].getParameterTypes()));
        due.is("the class is public and final",
            CapMembrane.class.getModifiers(), Modifier.PUBLIC | Modifier.FINAL);
        due.is("nested classes", CapMembrane.class.getDeclaredClasses().length, 0);
    }

    private static void fields() {
        int open = 0;
        int kept = 0;
        for (Field f : CapMembrane.class.getDeclaredFields()) {
            int mod = f.getModifiers();
            Class<?> type = f.getType();
            Class<?> cell = type.isArray() ? type.getComponentType() : type;
            boolean whole = cell.isPrimitive() && cell != float.class && cell != double.class;
            due.is("type of " + f.getName() + " is allowed", whole, true);
            if (Modifier.isStatic(mod)) {
                due.is("static " + f.getName() + " is a constant",
                    Modifier.isFinal(mod) && (type == int.class || type == long.class), true);
                open += Modifier.isPrivate(mod) ? 0 : 1;
            } else {
                due.is("field " + f.getName() + " is private", Modifier.isPrivate(mod), true);
                kept++;
            }
        }
        due.is("number of public constants", open, 19);
        due.is("at most 40 fields", kept <= 40, true);
    }
}
