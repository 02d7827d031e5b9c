import java.io.File;
import java.lang.reflect.Method;
import java.lang.reflect.Modifier;
import java.nio.file.Files;
import java.util.List;
import java.util.regex.Matcher;
import java.util.regex.Pattern;

/** README.md: each call of its example answers what stands behind it, and each call of the class is told. */
public final class ReadmeTest {
    private static final Pattern CALL = Pattern.compile("land\\.(\\w+)\\(([^)]*)\\);\\s*// (-?\\w+).*");

    public static void main(String[] args) throws Exception {
        File source = new File(args.length > 0 ? args[0] : "src/main/java/WheelLand.java").getAbsoluteFile();
        File root = source.getParentFile().getParentFile().getParentFile().getParentFile();
        List<String> lines = Files.readAllLines(new File(root, "README.md").toPath());
        example(lines);
        table(String.join("\n", lines));
        Checks.finish("ReadmeTest");
    }

    private static void example(List<String> lines) throws Exception {
        WheelLand land = null;
        int calls = 0;
        for (String line : lines) {
            if (line.equals("WheelLand land = new WheelLand();")) {
                land = new WheelLand();
            }
            if (line.startsWith("land.")) {
                Matcher call = CALL.matcher(line);
                Checks.due("can be read: " + line, land != null && call.matches(), true);
                Checks.due(line, answer(land, call.group(1), call.group(2)), number(call.group(3)));
                calls++;
            }
        }
        Checks.due("calls in the example are many", calls > 40, true);
    }

    private static long answer(WheelLand land, String name, String given) throws Exception {
        String[] parts = given.isEmpty() ? new String[0] : given.split(", *");
        for (Method method : WheelLand.class.getDeclaredMethods()) {
            if (method.getName().equals(name) && Modifier.isPublic(method.getModifiers())) {
                Object[] numbers = new Object[parts.length];
                for (int k = 0; k < parts.length; k++) {
                    numbers[k] = (int) number(parts[k]);
                }
                Object answer = method.invoke(land, numbers);
                return answer instanceof Boolean holds ? holds ? 1 : 0 : (int) answer;
            }
        }
        throw new IllegalArgumentException("no such call: " + name);
    }

    private static long number(String word) {
        switch (word) {
            case "NONE": return WheelLand.NONE;
            case "VOID": return WheelLand.VOID;
            case "true": return 1;
            case "false": return 0;
            default: return Long.decode(word);
        }
    }

    private static void table(String readme) {
        for (Method method : WheelLand.class.getDeclaredMethods()) {
            if (Modifier.isPublic(method.getModifiers())) {
                String name = "`" + method.getName() + "(";
                Checks.due(name + " is told", readme.contains(name), true);
            }
        }
    }
}
