import java.lang.reflect.Constructor;
import java.lang.reflect.Field;
import java.lang.reflect.Method;
import java.lang.reflect.Modifier;
import java.util.Set;
import java.util.TreeSet;

/** 'The public face': each constant, the constructor and each method as it is written there, and no other. */
public final class FaceTest {
    private static final String[] METHODS = {
        "int village(int,int,int)", "boolean road(int,int,int)", "int far(int,int)", "int house(int,int)",
        "boolean loom(int,int,int)", "boolean aim(int,int)", "int coins(int,int)", "int cotton(int,int)",
        "int go(int)", "int lot(int,int)", "int feed(int,int,int,int,int)", "boolean end(int)", "int fault()",
        "int sheet()", "int force(int,int)", "int why(int,int)", "int pay(int,int,int)", "int due(int,int)",
        "int bar(int,int,int)", "int weave(int,int,int)", "int cloth(int,int)", "int ask(int)", "int clear()",
        "int hands(int,int)", "int bring(int,int)", "int mill(int,int)", "boolean price(int,int)",
        "int talk(int,int)", "int heard(int,int)", "int likes(int)", "int sold(int,int)",
        "int wrong(int,boolean)", "int look()", "int gift(int,int,int)", "int forget()", "int best(int,int)",
        "int hungry(int)", "int keeps(int,int)", "int told(int,int)", "int check(int,int,int)",
        "int is(int,int)", "int has(int,int)", "int count(int)"};

    public static void main(String[] args) throws Exception {
        constants();
        constructor();
        methods();
        inside();
        Checks.finish("FaceTest");
    }

    private static void constants() throws Exception {
        Checks.due("NONE", WheelLand.NONE, -1);
        Checks.due("VOID", WheelLand.VOID, -2147483648L);
        int open = 0;
        for (Field field : WheelLand.class.getDeclaredFields()) {
            if (!Modifier.isPrivate(field.getModifiers()) && !field.isSynthetic()) {
                open++;
                Checks.due(field.getName() + " is one of two", "NONE VOID".contains(field.getName()), true);
                Checks.due(field.getName() + " is public static final", field.getModifiers(),
                        Modifier.PUBLIC | Modifier.STATIC | Modifier.FINAL);
                Checks.due(field.getName() + " is an int", field.getType() == int.class, true);
            }
        }
        Checks.due("constants that can be seen", open, 2);
    }

    private static void constructor() {
        Constructor<?>[] all = WheelLand.class.getDeclaredConstructors();
        Checks.due("constructors", all.length, 1);
        Checks.due("it is public", all[0].getModifiers(), Modifier.PUBLIC);
        Checks.due("it takes none", all[0].getParameterCount(), 0);
        Checks.due("it tells no exceptions", all[0].getExceptionTypes().length, 0);
        Checks.due("the class is public and final", WheelLand.class.getModifiers(), Modifier.PUBLIC | Modifier.FINAL);
        Checks.due("it has no package", WheelLand.class.getPackageName().isEmpty(), true);
        Checks.due("it is no other's kind", WheelLand.class.getSuperclass() == Object.class, true);
        Checks.due("it is of no interface", WheelLand.class.getInterfaces().length, 0);
    }

    private static void methods() {
        Set<String> missing = new TreeSet<>(Set.of(METHODS));
        for (Method method : WheelLand.class.getDeclaredMethods()) {
            if (!Modifier.isPrivate(method.getModifiers()) && !method.isSynthetic()) {
                String written = method.toGenericString().replace("WheelLand.", "").replace("public ", "");
                Checks.due(written + " is in the face", missing.remove(written), true);
                Checks.due(written + " is public alone", method.getModifiers(), Modifier.PUBLIC);
            }
        }
        Checks.due("methods of the face that are missing: " + missing, missing.size(), 0);
    }

    /** LANGUAGE.md, rule 1: the classes inside are private or package-visible and static. */
    private static void inside() {
        for (Class<?> inner : WheelLand.class.getDeclaredClasses()) {
            int flags = inner.getModifiers();
            Checks.due(inner.getName() + " is static", Modifier.isStatic(flags), true);
            Checks.due(inner.getName() + " isn't open", Modifier.isPublic(flags) || Modifier.isProtected(flags), false);
        }
    }
}
