import com.sun.source.tree.CompilationUnitTree;
import com.sun.source.tree.LineMap;
import com.sun.source.tree.MethodInvocationTree;
import com.sun.source.tree.MethodTree;
import com.sun.source.tree.NewClassTree;
import com.sun.source.util.JavacTask;
import com.sun.source.util.SourcePositions;
import com.sun.source.util.TreePathScanner;
import com.sun.source.util.Trees;
import java.nio.file.Path;
import java.util.ArrayList;
import java.util.HashMap;
import java.util.HashSet;
import java.util.List;
import java.util.Map;
import java.util.Set;
import java.util.TreeSet;
import javax.lang.model.element.Element;
import javax.tools.JavaCompiler;
import javax.tools.StandardJavaFileManager;
import javax.tools.ToolProvider;

/**
 * The shape of the class, by the compiler's own tree: LANGUAGE.md 8 and 11 (no recursion here,
 * calls at most eight deep, short methods of at most seven parameters) and 4 (the library).
 */
public final class ShapeTest {
    private static final int MOST_LINES = 60, MOST_DEEP = 8, MOST_PARAMETERS = 7;
    private static final Set<String> LIBRARY = Set.of("java.lang.Math.min", "java.lang.Math.max",
        "java.lang.Integer.bitCount", "java.lang.System.arraycopy", "java.lang.Object.<init>");

    private static final Map<String, Set<String>> calls = new HashMap<>();
    private static int wrong = 0;

    private static void tell(String what) {
        wrong++;
        System.out.println("does not hold: " + what);
    }

    private static String nameOf(Element e) {
        return e.getEnclosingElement() + "." + e.getSimpleName();
    }

    /** Notes of each method how long it is and what it calls; a library call is looked up. */
    private static final class Scan extends TreePathScanner<Void, Void> {
        private final Trees trees;
        private final CompilationUnitTree unit;
        private String inside = "";

        Scan(Trees trees, CompilationUnitTree unit) {
            this.trees = trees;
            this.unit = unit;
        }

        @Override
        public Void visitMethod(MethodTree method, Void none) {
            String outer = inside;
            inside = nameOf(trees.getElement(getCurrentPath()));
            if (calls.put(inside, new TreeSet<>()) != null) {
                tell(inside + " bears the name of another one: the paths below would be mixed");
            }
            SourcePositions places = trees.getSourcePositions();
            LineMap lines = unit.getLineMap();
            long end = places.getEndPosition(unit, method);
            // a constructor that javac adds has no end of its own
            if (end >= 0) {
                long from = lines.getLineNumber(places.getStartPosition(unit, method));
                if (lines.getLineNumber(end) - from >= MOST_LINES) {
                    tell(inside + " is longer than " + MOST_LINES + " lines");
                }
            }
            if (method.getParameters().size() > MOST_PARAMETERS) {
                tell(inside + " takes more than " + MOST_PARAMETERS + " parameters");
            }
            super.visitMethod(method, none);
            inside = outer;
            return null;
        }

        @Override
        public Void visitMethodInvocation(MethodInvocationTree call, Void none) {
            note(trees.getElement(getCurrentPath()));
            return super.visitMethodInvocation(call, none);
        }

        @Override
        public Void visitNewClass(NewClassTree made, Void none) {
            note(trees.getElement(getCurrentPath()));
            return super.visitNewClass(made, none);
        }

        private void note(Element called) {
            String name = nameOf(called);
            if (!name.startsWith("FairFight") && !LIBRARY.contains(name)) {
                tell(inside + " calls " + name + ", which is not in this list of the library");
            }
            if (calls.containsKey(inside)) {
                calls.get(inside).add(name);
            }
        }
    }

    /** The longest way of calls from a method on, itself first; the library counts as well. */
    private static List<String> deepest(String method, Set<String> open,
            Map<String, List<String>> known) {
        if (known.containsKey(method)) {
            return known.get(method);
        }
        List<String> longest = new ArrayList<>();
        if (!open.add(method)) {
            tell(method + " calls itself, perhaps through others");
            return longest;
        }
        for (String called : calls.getOrDefault(method, Set.of())) {
            List<String> path = deepest(called, open, known);
            if (path.size() > longest.size()) {
                longest = path;
            }
        }
        open.remove(method);
        List<String> own = new ArrayList<>(List.of(method));
        own.addAll(longest);
        known.put(method, own);
        return own;
    }

    public static void main(String[] args) throws Exception {
        JavaCompiler compiler = ToolProvider.getSystemJavaCompiler();
        try (StandardJavaFileManager files = compiler.getStandardFileManager(null, null, null)) {
            JavacTask task = (JavacTask) compiler.getTask(null, files, null, List.of("-proc:none"),
                null, files.getJavaFileObjects(Path.of("src/main/java/FairFight.java")));
            Iterable<? extends CompilationUnitTree> units = task.parse();
            task.analyze();
            for (CompilationUnitTree unit : units) {
                new Scan(Trees.instance(task), unit).scan(unit, null);
            }
        }
        if (calls.size() < 36) {
            tell("only " + calls.size() + " methods were found");
        }
        int most = 0;
        Map<String, List<String>> known = new HashMap<>();
        for (String method : new TreeSet<>(calls.keySet())) {
            List<String> path = deepest(method, new HashSet<>(), known);
            most = Math.max(most, path.size());
            if (path.size() > MOST_DEEP) {
                tell("calls more than " + MOST_DEEP + " deep: " + path);
            }
        }
        System.out.println(wrong == 0 ? "all " + calls.size() + " methods are in shape, calls are "
            + most + " deep at most" : wrong + " things are out of shape");
        if (wrong != 0) {
            System.exit(1);
        }
    }
}
