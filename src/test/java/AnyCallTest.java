import java.lang.reflect.InvocationTargetException;
import java.lang.reflect.Method;
import java.lang.reflect.Modifier;
import java.util.ArrayList;
import java.util.Comparator;
import java.util.List;
import java.util.Random;

/**
 * No call throws, for any arguments in any state, and the same calls always give the same answers: 512 calls
 * of an object, of each method of the face as often, with numbers of all kinds, on two objects in a row.
 */
public final class AnyCallTest {
    private static final int CALLS = 512;
    private static final int[] EDGES = {
        Integer.MIN_VALUE, Integer.MIN_VALUE + 1, -1000000, -9999, -101, -100, -1, 0, 1, 2, 4, 8, 13, 26, 63, 100, 101,
        156, 299, 300, 400, 401, 999, 1000, 9999, 10000, 40404040, 1000000, 1 << 20, 1 << 30, Integer.MAX_VALUE - 1,
        Integer.MAX_VALUE};

    public static void main(String[] args) throws Exception {
        List<Method> face = face();
        for (int seed = 0; seed < 400; seed++) {
            List<String> first = answers(face, seed);
            List<String> again = answers(face, seed);
            for (int k = 0; k < CALLS; k++) {
                String call = "seed " + seed + ", call " + k + ": " + first.get(k);
                Checks.due(call + ", then " + again.get(k), first.get(k).equals(again.get(k)), true);
                Checks.due(call, first.get(k).contains("threw"), false);
            }
        }
        Checks.finish("AnyCallTest");
    }

    private static List<Method> face() {
        List<Method> face = new ArrayList<>();
        for (Method method : WheelLand.class.getDeclaredMethods()) {
            if (Modifier.isPublic(method.getModifiers())) {
                face.add(method);
            }
        }
        face.sort(Comparator.comparing(Method::getName));
        return face;
    }

    private static List<String> answers(List<Method> face, int seed) throws Exception {
        Random random = new Random(seed);
        WheelLand land = seed % 4 == 0 ? new WheelLand() : busyLand(seed);
        List<String> answers = new ArrayList<>();
        for (int k = 0; k < CALLS; k++) {
            Method method = face.get(random.nextInt(face.size()));
            Object[] given = new Object[method.getParameterCount()];
            StringBuilder call = new StringBuilder(method.getName());
            for (int p = 0; p < given.length; p++) {
                given[p] = method.getParameterTypes()[p] == boolean.class ? random.nextBoolean() : number(random);
                call.append(' ').append(given[p]);
            }
            answers.add(call + " answered " + answer(land, method, given));
        }
        return answers;
    }

    private static int number(Random random) {
        switch (random.nextInt(4)) {
            case 0: return EDGES[random.nextInt(EDGES.length)];
            case 1: return random.nextInt();
            default: return random.nextInt(12);
        }
    }

    private static String answer(WheelLand land, Method method, Object[] given) throws Exception {
        try {
            return String.valueOf(method.invoke(land, given));
        } catch (InvocationTargetException thrown) {
            return "threw " + thrown.getCause();
        }
    }

    /** A land with all that can be there, at its start, on its way or behind its last week. */
    private static WheelLand busyLand(int seed) {
        WheelLand land = new WheelLand();
        for (int k = 0; k < 8; k++) {
            land.village(40404040, 9, 9999);
            land.road(k, k - 1, k);
        }
        for (int k = 0; k < 20; k++) {
            land.house(k % 8, 5959 - 1000 * (k % 3));
            land.loom(k, 460, 40);
        }
        Checks.enforce(land, "owe week; wage 2*hanks; duty price/3; may not far>9 or [other=5]; stamp hanks<9;", 0);
        int weeks = seed % 4 == 1 ? 2 : seed % 4 == 2 ? 30 : 156;
        for (int k = 0; k < weeks; k++) {
            land.go(1);
            land.weave(k % 20, k, 2 + 2 * (k % 8));
            land.bring(k, k % 8);
        }
        for (int k = 0; k < 6; k++) {
            land.ask(k);
            land.gift(9, k, k % 3);
        }
        return land;
    }
}
