import com.sun.source.tree.*;
import com.sun.source.util.JavacTask;
import com.sun.source.util.TreeScanner;
import java.io.File;
import java.util.HashMap;
import java.util.HashSet;
import java.util.List;
import java.util.Map;
import java.util.Set;
import javax.lang.model.element.Modifier;
import javax.tools.JavaCompiler;
import javax.tools.StandardJavaFileManager;
import javax.tools.ToolProvider;

/** The rules of ../shared/LANGUAGE.md that can be seen in the source; its path is the argument. */
public final class LanguageTest {
    private static final Set<String> LIBRARY = Set.of(
            "length", "charAt", "isEmpty", "equals", "indexOf", "substring", "toCharArray", "append", "setCharAt",
            "setLength", "deleteCharAt", "reverse", "toString", "add", "get", "set", "remove", "size", "clear",
            "List.of", "Integer.compare", "Integer.bitCount", "Math.max", "Math.min", "Math.abs", "Math.floorDiv",
            "Math.floorMod", "System.arraycopy", "Arrays.copyOf", "Arrays.copyOfRange", "Arrays.fill", "clone");
    private static final Set<Tree.Kind> RULED_OUT = Set.of(
            Tree.Kind.THROW, Tree.Kind.TRY, Tree.Kind.CATCH, Tree.Kind.SYNCHRONIZED, Tree.Kind.ASSERT,
            Tree.Kind.LAMBDA_EXPRESSION, Tree.Kind.MEMBER_REFERENCE);

    private static int wrong = 0;

    public static void main(String[] args) throws Exception {
        String path = args.length > 0 ? args[0] : "src/main/java/WheelLand.java";
        JavaCompiler compiler = ToolProvider.getSystemJavaCompiler();
        try (StandardJavaFileManager files = compiler.getStandardFileManager(null, null, null)) {
            JavacTask task = (JavacTask) compiler.getTask(null, files, null, List.of("-proc:none"), null,
                    files.getJavaFileObjects(new File(path)));
            for (CompilationUnitTree unit : task.parse()) {
                rules(unit);
            }
        }
        System.out.println("LanguageTest: " + wrong + " wrong");
        if (wrong != 0) {
            System.exit(1);
        }
    }

    private static void say(boolean wrongHere, String what) {
        if (wrongHere) {
            wrong++;
            System.out.println(what);
        }
    }

    private static void rules(CompilationUnitTree unit) throws Exception {
        say(unit.getPackage() != null, "there is a package line");
        for (ImportTree i : unit.getImports()) {
            String name = i.getQualifiedIdentifier().toString();
            say(!Set.of("java.util.ArrayList", "java.util.Arrays", "java.util.List").contains(name), "import " + name);
        }
        say(unit.getTypeDecls().size() != 1, "more than one class outside");
        LineMap lines = unit.getLineMap();
        com.sun.source.util.SourcePositions places = com.sun.source.util.Trees.instance(
                (JavacTask) ToolProvider.getSystemJavaCompiler().getTask(null, null, null, null, null, List.of()))
                .getSourcePositions();
        Set<String> own = new HashSet<>();
        Map<String, Integer> faces = new HashMap<>();
        names(unit, own, faces);
        new TreeScanner<Void, ClassTree>() {
            private int classes = 0;

            @Override
            public Void scan(Tree tree, ClassTree in) {
                say(tree != null && RULED_OUT.contains(tree.getKind()), "ruled out: " + tree);
                return super.scan(tree, in);
            }

            @Override
            public Void visitClass(ClassTree tree, ClassTree in) {
                classes++;
                say(classes > 12, "class " + classes + ": " + tree.getSimpleName());
                Set<Modifier> flags = tree.getModifiers().getFlags();
                say(in != null && !flags.contains(Modifier.STATIC), tree.getSimpleName() + " isn't static");
                int fields = 0;
                for (Tree member : tree.getMembers()) {
                    fields += member instanceof VariableTree v
                            && !v.getModifiers().getFlags().contains(Modifier.STATIC) ? 1 : 0;
                    say(member.getKind() == Tree.Kind.BLOCK, "an initialiser block");
                }
                say(fields > 20, tree.getSimpleName() + " has " + fields + " fields");
                return super.visitClass(tree, tree);
            }

            @Override
            public Void visitVariable(VariableTree tree, ClassTree in) {
                Set<Modifier> flags = tree.getModifiers().getFlags();
                say(flags.contains(Modifier.STATIC) && !flags.contains(Modifier.FINAL), "static state: " + tree);
                return super.visitVariable(tree, in);
            }

            @Override
            public Void visitMethod(MethodTree tree, ClassTree in) {
                long from = lines.getLineNumber(places.getStartPosition(unit, tree));
                long to = lines.getLineNumber(places.getEndPosition(unit, tree));
                say(to - from >= 60, tree.getName() + " has " + (to - from + 1) + " lines");
                say(tree.getParameters().size() > 7, tree.getName() + " takes too many");
                boolean open = tree.getModifiers().getFlags().contains(Modifier.PUBLIC);
                boolean inside = !in.getSimpleName().contentEquals("WheelLand");
                say(!open && faces.containsKey(tree.getName().toString()), tree.getName() + " bears a public name");
                say(!inside && !open && !tree.getModifiers().getFlags().contains(Modifier.PRIVATE),
                        tree.getName() + " can be seen");
                return super.visitMethod(tree, in);
            }

            @Override
            public Void visitMethodInvocation(MethodInvocationTree tree, ClassTree in) {
                String name = tree.getMethodSelect().toString();
                String last = name.substring(name.lastIndexOf('.') + 1);
                say(!own.contains(last) && !LIBRARY.contains(last) && !LIBRARY.contains(name) && !name.equals("super"),
                        "not in the library: " + name);
                return super.visitMethodInvocation(tree, in);
            }

            @Override
            public Void visitBinary(BinaryTree tree, ClassTree in) {
                boolean texts = tree.getKind() == Tree.Kind.PLUS && (tree.getLeftOperand().getKind()
                        == Tree.Kind.STRING_LITERAL || tree.getRightOperand().getKind() == Tree.Kind.STRING_LITERAL);
                say(texts, "texts joined by +");
                return super.visitBinary(tree, in);
            }

            @Override
            public Void visitLiteral(LiteralTree tree, ClassTree in) {
                String text = tree.getValue() instanceof String s ? s : "";
                say(text.chars().anyMatch(c -> c < 1 || c > 127), "a sign beyond 127: " + text);
                return null;
            }
        }.scan(unit, null);
    }

    /** Names of all methods, and of the public ones. */
    private static void names(CompilationUnitTree unit, Set<String> own, Map<String, Integer> faces) {
        new TreeScanner<Void, Void>() {
            @Override
            public Void visitMethod(MethodTree tree, Void none) {
                own.add(tree.getName().toString());
                boolean open = tree.getModifiers().getFlags().contains(Modifier.PUBLIC);
                if (open && tree.getReturnType() != null) {
                    faces.merge(tree.getName().toString(), 1, Integer::sum);
                }
                return super.visitMethod(tree, none);
            }
        }.scan(unit, null);
        say(faces.size() != 43, "the face has " + faces.size() + " methods");
    }
}
