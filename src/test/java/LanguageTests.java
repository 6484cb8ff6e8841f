import com.sun.source.tree.CatchTree;
import com.sun.source.tree.CompilationUnitTree;
import com.sun.source.tree.LambdaExpressionTree;
import com.sun.source.tree.MemberReferenceTree;
import com.sun.source.tree.MethodInvocationTree;
import com.sun.source.tree.MethodTree;
import com.sun.source.tree.NewClassTree;
import com.sun.source.tree.TypeCastTree;
import com.sun.source.util.JavacTask;
import com.sun.source.util.TreePathScanner;
import com.sun.source.util.Trees;
import java.io.IOException;
import java.nio.file.Path;
import java.util.HashMap;
import java.util.LinkedHashMap;
import java.util.LinkedHashSet;
import java.util.List;
import java.util.Map;
import java.util.Set;
import javax.lang.model.element.Element;
import javax.lang.model.element.ElementKind;
import javax.tools.JavaCompiler;
import javax.tools.StandardJavaFileManager;
import javax.tools.ToolProvider;

/** What the compiler's own tree of the source tells of ../shared/LANGUAGE.md: library, lengths, depths. */
public final class LanguageTests {
    private static final Set<String> LIBRARY = Set.of(
        "String.length", "String.charAt", "String.isEmpty", "String.equals", "String.indexOf", "String.substring",
        "String.toCharArray", "StringBuilder.append", "StringBuilder.charAt", "StringBuilder.setCharAt",
        "StringBuilder.setLength", "StringBuilder.deleteCharAt", "StringBuilder.reverse", "StringBuilder.length",
        "StringBuilder.toString", "System.arraycopy", "Arrays.copyOf", "Arrays.copyOfRange", "Arrays.fill",
        "Integer.bitCount", "Math.min", "Math.max", "Math.abs");
    private static final Set<String> MADE = Set.of(
        "IllegalStateException", "IllegalArgumentException", "IndexOutOfBoundsException", "ArithmeticException",
        "UnsupportedOperationException", "NoSuchElementException", "RuntimeException", "StringBuilder", "String");
    private static final int LONGEST_METHOD = 60;
    private static final int MOST_PARAMETERS = 7;
    private static final int DEEPEST = 8;

    private final Trees trees;
    private final CompilationUnitTree unit;
    private final Map<Element, Set<Element>> calls = new LinkedHashMap<>();
    private final Map<Element, Integer> depths = new HashMap<>();

    private LanguageTests(Trees trees, CompilationUnitTree unit) {
        this.trees = trees;
        this.unit = unit;
    }

    public static void main(String[] args) throws IOException {
        JavaCompiler compiler = ToolProvider.getSystemJavaCompiler();
        try (StandardJavaFileManager files = compiler.getStandardFileManager(null, null, null)) {
            JavacTask task = (JavacTask) compiler.getTask(null, files, null, List.of("-proc:none"), null,
                    files.getJavaFileObjects(Path.of("src/main/java/TheatreSeasons.java")));
            CompilationUnitTree unit = task.parse().iterator().next();
            task.analyze();
            LanguageTests test = new LanguageTests(Trees.instance(task), unit);
            Checks.group("rules 2 to 6 and 11, single methods", test::scan);
            Checks.group("rule 11, calls go at most eight deep", test::checkDepths);
        }
        Checks.end();
    }

    private void scan() {
        new Scanner().scan(unit, null);
        Checks.tell(calls.size() > 36, "only " + calls.size() + " methods found");
    }

    private final class Scanner extends TreePathScanner<Void, Void> {
        private Element method;

        @Override
        public Void visitMethod(MethodTree tree, Void nothing) {
            Element outer = method;
            method = trees.getElement(getCurrentPath());
            calls.put(method, new LinkedHashSet<>());
            checkSize(tree, tree.getName().toString());
            super.visitMethod(tree, nothing);
            method = outer;
            return null;
        }

        @Override
        public Void visitMethodInvocation(MethodInvocationTree tree, Void nothing) {
            take(trees.getElement(getCurrentPath()));
            return super.visitMethodInvocation(tree, nothing);
        }

        @Override
        public Void visitNewClass(NewClassTree tree, Void nothing) {
            Element made = trees.getElement(getCurrentPath());
            if (isOwn(made)) {
                take(made);
            } else {
                String name = made.getEnclosingElement().getSimpleName().toString();
                Checks.tell(MADE.contains(name), "an object of " + name);
            }
            return super.visitNewClass(tree, nothing);
        }

        @Override
        public Void visitCatch(CatchTree tree, Void nothing) {
            Checks.tell(false, "a catch in " + method);
            return super.visitCatch(tree, nothing);
        }

        @Override
        public Void visitLambdaExpression(LambdaExpressionTree tree, Void nothing) {
            Checks.tell(false, "a lambda in " + method);
            return super.visitLambdaExpression(tree, nothing);
        }

        @Override
        public Void visitMemberReference(MemberReferenceTree tree, Void nothing) {
            Checks.tell(false, "a method reference in " + method);
            return super.visitMemberReference(tree, nothing);
        }

        @Override
        public Void visitTypeCast(TypeCastTree tree, Void nothing) {
            String type = tree.getType().toString();
            Checks.tell(Set.of("char", "int", "long", "float", "double").contains(type), "a cast to " + type);
            return super.visitTypeCast(tree, nothing);
        }

        private void take(Element called) {
            if (isOwn(called)) {
                if (method != null) {
                    calls.get(method).add(called);
                }
                return;
            }
            String name = called.getEnclosingElement().getSimpleName() + "." + called.getSimpleName();
            boolean isPlain = called.getKind() == ElementKind.CONSTRUCTOR && name.equals("Object.<init>");
            Checks.tell(isPlain || LIBRARY.contains(name), "a call of " + name);
        }
    }

    private static boolean isOwn(Element element) {
        Element outer = element;
        while (outer.getEnclosingElement() != null && outer.getEnclosingElement().getKind() != ElementKind.PACKAGE) {
            outer = outer.getEnclosingElement();
        }
        return outer.getSimpleName().contentEquals("TheatreSeasons");
    }

    private void checkSize(MethodTree tree, String name) {
        long first = trees.getSourcePositions().getStartPosition(unit, tree);
        long last = trees.getSourcePositions().getEndPosition(unit, tree);
        long lines = unit.getLineMap().getLineNumber(last) - unit.getLineMap().getLineNumber(first) + 1;
        Checks.tell(lines <= LONGEST_METHOD, name + " has " + lines + " lines");
        Checks.tell(tree.getParameters().size() <= MOST_PARAMETERS, name + " has too many parameters");
    }

    private void checkDepths() {
        for (Element method : calls.keySet()) {
            int depth = depth(method);
            Checks.tell(depth <= DEEPEST, method + " goes " + depth + " deep");
        }
    }

    /** How many methods stand open at once, this one included; the program has no recursion. */
    private int depth(Element method) {
        Integer known = depths.get(method);
        if (known != null) {
            return known;
        }
        depths.put(method, 1000);
        int deepest = 0;
        for (Element called : calls.getOrDefault(method, Set.of())) {
            deepest = Math.max(deepest, depth(called));
        }
        depths.put(method, deepest + 1);
        return deepest + 1;
    }
}
