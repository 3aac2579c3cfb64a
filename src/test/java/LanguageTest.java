import com.sun.source.tree.ClassTree;
import com.sun.source.tree.CompilationUnitTree;
import com.sun.source.tree.MemberSelectTree;
import com.sun.source.tree.MethodInvocationTree;
import com.sun.source.tree.MethodTree;
import com.sun.source.tree.NewArrayTree;
import com.sun.source.tree.NewClassTree;
import com.sun.source.tree.Tree;
import com.sun.source.tree.VariableTree;
import com.sun.source.util.JavacTask;
import com.sun.source.util.SourcePositions;
import com.sun.source.util.TreeScanner;
import com.sun.source.util.Trees;
import java.io.IOException;
import java.lang.reflect.Array;
import java.lang.reflect.Constructor;
import java.lang.reflect.Field;
import java.lang.reflect.Method;
import java.lang.reflect.Modifier;
import java.nio.file.Files;
import java.nio.file.Path;
import java.util.HashMap;
import java.util.HashSet;
import java.util.IdentityHashMap;
import java.util.List;
import java.util.Map;
import java.util.Set;
import java.util.TreeMap;
import java.util.TreeSet;
import java.util.regex.Matcher;
import java.util.regex.Pattern;
import javax.tools.JavaCompiler;
import javax.tools.StandardJavaFileManager;
import javax.tools.ToolProvider;

/** The rules of LANGUAGE.md that can be seen from the source: run from the project's root. */
public final class LanguageTest {
    private static final Check CHECK = new Check("LanguageTest");
    private static final Path SOURCE = Path.of("src/main/java/PepperTables.java");
    private static final Path DOCUMENT = Path.of("../shared/DOC.md");
    private static final String FORBIDDEN = "\\b(throw|throws|try|catch|finally|synchronized|assert|volatile|native|import"
            + "|protected|double|float|Object|Exception|Thread|Random|hashCode|toString)\\b|\\w+Exact\\b|->|::|@"
            + "|\\bSystem\\.(?!arraycopy\\b)|\\bArrays\\.(?!copyOf\\b|copyOfRange\\b|fill\\b)";
    private static final int MOST_LINES = 60;
    private static final int MOST_PARAMETERS = 7;
    private static final int MOST_CLASSES = 12;
    private static final int MOST_FIELDS = 20;
    private static final int MOST_DEPTH = 8;
    /** A run may make an object for each of 512 calls, and all of them are in one room: this leaves most of it free. */
    private static final int MOST_OBJECTS = 600000 / 512 / 4;
    private static final int MOST_CELLS = 7300000 / 512 / 3;

    private static final Map<String, Set<String>> CALLS = new TreeMap<>();
    private static final Map<String, Integer> DEPTHS = new HashMap<>();

    public static void main(String[] args) throws IOException {
        words();
        face();
        shapes();
        room();
        CHECK.close();
    }

    private static void room() {
        Map<Object, Integer> cells = new IdentityHashMap<>();
        measure(new PepperTables(), cells);
        int sum = cells.values().stream().mapToInt(Integer::intValue).sum();
        CHECK.due("an object is " + cells.size() + " objects", cells.size() <= MOST_OBJECTS, true);
        CHECK.due("an object has " + sum + " fields and elements", sum <= MOST_CELLS, true);
    }

    /** Fields or elements of an object and of all that it holds, each object once. */
    private static void measure(Object o, Map<Object, Integer> cells) {
        if (o == null || cells.containsKey(o)) {
            return;
        }
        if (o.getClass().isArray()) {
            CHECK.due("an array of numbers", o.getClass().getComponentType().isPrimitive(), true);
            cells.put(o, Array.getLength(o));
            return;
        }
        cells.put(o, 0);
        int count = 0;
        for (Field f : o.getClass().getDeclaredFields()) {
            if (!Modifier.isStatic(f.getModifiers())) {
                count++;
                measure(f.getType().isPrimitive() ? null : valueOf(f, o), cells);
            }
        }
        cells.put(o, count);
    }

    private static Object valueOf(Field f, Object o) {
        try {
            f.setAccessible(true);
            return f.get(o);
        } catch (IllegalAccessException e) {
            throw new IllegalStateException(e);
        }
    }

    private static void words() throws IOException {
        String code = Files.readString(SOURCE);
        CHECK.due("signs outside ASCII", code.chars().anyMatch(c -> c > 126), false);
        code = code.replaceAll("(?s)/\\*.*?\\*/|//[^\n]*|\"[^\"\n]*\"", " ");
        Matcher m = Pattern.compile(FORBIDDEN).matcher(code);
        while (m.find()) {
            CHECK.due("found '" + m.group() + "'", 1, 0);
        }
    }

    private static Set<String> facesOfDocument() throws IOException {
        Set<String> faces = new TreeSet<>();
        String block = Files.readString(DOCUMENT).replaceFirst("(?s)^.*?```java\n(.*?)```.*$", "$1");
        Matcher m = Pattern.compile("public (?!final class)([^;]*);").matcher(block);
        while (m.find()) {
            faces.add(m.group(1).replaceAll(" = .*| (?:a|\\w+)(?=[,)])", "").replace("static final ", ""));
        }
        return faces;
    }

    private static String typesOf(Class<?>[] types) {
        StringBuilder s = new StringBuilder();
        for (Class<?> type : types) {
            s.append(s.length() > 0 ? ", " : "").append(type.getSimpleName());
        }
        return "(" + s + ")";
    }

    private static void face() throws IOException {
        Class<PepperTables> c = PepperTables.class;
        Set<String> faces = new TreeSet<>();
        Set<String> hidden = new HashSet<>();
        for (Method m : c.getDeclaredMethods()) {
            if (Modifier.isPublic(m.getModifiers())) {
                faces.add(m.getReturnType().getSimpleName() + " " + m.getName() + typesOf(m.getParameterTypes()));
            } else {
                CHECK.due(m.getName() + " is private", Modifier.isPrivate(m.getModifiers()), true);
                hidden.add(m.getName());
            }
        }
        for (Constructor<?> k : c.getDeclaredConstructors()) {
            faces.add(k.getDeclaringClass().getSimpleName() + typesOf(k.getParameterTypes()));
        }
        for (Field f : c.getDeclaredFields()) {
            if (Modifier.isPublic(f.getModifiers())) {
                faces.add(f.getType().getSimpleName() + " " + f.getName());
            } else {
                CHECK.due(f.getName() + " is private", Modifier.isPrivate(f.getModifiers()), true);
            }
        }
        Set<String> wanted = facesOfDocument();
        CHECK.due("faces of the document", wanted.size(), 57);
        CHECK.due("face " + faces + " against " + wanted, faces.equals(wanted), true);
        CHECK.due("final", Modifier.isFinal(c.getModifiers()), true);
        for (Class<?> inner : c.getDeclaredClasses()) {
            CHECK.due(inner + " is static", Modifier.isStatic(inner.getModifiers()), true);
            for (Method m : inner.getDeclaredMethods()) {
                hidden.add(m.getName());
            }
            staticFieldsAreConstants(inner);
        }
        staticFieldsAreConstants(c);
        for (Method m : c.getMethods()) {
            CHECK.due("a hidden method bears the name " + m.getName(), hidden.contains(m.getName()), false);
        }
    }

    private static void staticFieldsAreConstants(Class<?> c) {
        for (Field f : c.getDeclaredFields()) {
            if (Modifier.isStatic(f.getModifiers())) {
                CHECK.due(f + " is final", Modifier.isFinal(f.getModifiers()), true);
            }
        }
    }

    private static void shapes() throws IOException {
        JavaCompiler compiler = ToolProvider.getSystemJavaCompiler();
        try (StandardJavaFileManager files = compiler.getStandardFileManager(null, null, null)) {
            JavacTask task = (JavacTask) compiler.getTask(null, files, null, List.of(), null, files.getJavaFileObjects(SOURCE));
            SourcePositions positions = Trees.instance(task).getSourcePositions();
            for (CompilationUnitTree unit : task.parse()) {
                Shapes shapes = new Shapes(unit, positions);
                shapes.scan(unit, null);
                CHECK.due("classes: " + shapes.classes, shapes.classes <= MOST_CLASSES, true);
            }
        }
        for (String method : CALLS.keySet()) {
            int depth = depthOf(method);
            CHECK.due(method + " goes " + depth + " deep", depth <= MOST_DEPTH, true);
        }
    }

    /** Methods are told apart by their names alone; those that can come back to one another count as one. */
    private static int depthOf(String method) {
        Integer known = DEPTHS.get(method);
        if (known != null) {
            return known;
        }
        Set<String> ring = ringOf(method);
        int depth = 0;
        for (String member : ring) {
            for (String called : CALLS.get(member)) {
                if (CALLS.containsKey(called) && !ring.contains(called)) {
                    depth = Math.max(depth, depthOf(called));
                }
            }
        }
        for (String member : ring) {
            DEPTHS.put(member, depth + 1);
        }
        return depth + 1;
    }

    private static Set<String> reach(String from) {
        Set<String> seen = new HashSet<>();
        List<String> open = new java.util.ArrayList<>(CALLS.get(from));
        while (!open.isEmpty()) {
            String next = open.remove(open.size() - 1);
            if (CALLS.containsKey(next) && seen.add(next)) {
                open.addAll(CALLS.get(next));
            }
        }
        return seen;
    }

    private static Set<String> ringOf(String method) {
        Set<String> ring = new HashSet<>(Set.of(method));
        for (String other : reach(method)) {
            if (reach(other).contains(method)) {
                ring.add(other);
            }
        }
        return ring;
    }

    private static final class Shapes extends TreeScanner<Void, Void> {
        private final CompilationUnitTree unit;
        private final SourcePositions positions;
        private String method = "";
        int classes;

        Shapes(CompilationUnitTree unit, SourcePositions positions) {
            this.unit = unit;
            this.positions = positions;
        }

        @Override
        public Void visitClass(ClassTree tree, Void none) {
            classes++;
            int fields = 0;
            for (Tree member : tree.getMembers()) {
                boolean isOwn = member instanceof VariableTree v
                        && !v.getModifiers().getFlags().contains(javax.lang.model.element.Modifier.STATIC);
                fields += isOwn ? 1 : 0;
            }
            CHECK.due(tree.getSimpleName() + " has " + fields + " fields", fields <= MOST_FIELDS, true);
            return super.visitClass(tree, none);
        }

        @Override
        public Void visitMethod(MethodTree tree, Void none) {
            method = tree.getName().toString();
            CALLS.computeIfAbsent(method, m -> new TreeSet<>());
            long from = unit.getLineMap().getLineNumber(positions.getStartPosition(unit, tree));
            long to = unit.getLineMap().getLineNumber(positions.getEndPosition(unit, tree));
            CHECK.due(method + " has " + (to - from + 1) + " lines", to - from < MOST_LINES, true);
            CHECK.due(method + " has parameters", tree.getParameters().size() <= MOST_PARAMETERS, true);
            super.visitMethod(tree, none);
            method = "";
            return null;
        }

        @Override
        public Void visitNewClass(NewClassTree tree, Void none) {
            madeAtFirstOnly(tree);
            return super.visitNewClass(tree, none);
        }

        @Override
        public Void visitNewArray(NewArrayTree tree, Void none) {
            madeAtFirstOnly(tree);
            return super.visitNewArray(tree, none);
        }

        /** What calls make is counted over a whole run, so they make nothing. */
        private void madeAtFirstOnly(Tree tree) {
            CHECK.due(method + " makes " + tree, method.isEmpty() || method.equals("<init>"), true);
        }

        @Override
        public Void visitMethodInvocation(MethodInvocationTree tree, Void none) {
            Tree select = tree.getMethodSelect();
            String name = select instanceof MemberSelectTree m ? m.getIdentifier().toString() : select.toString();
            CALLS.computeIfAbsent(method, m -> new TreeSet<>()).add(name);
            return super.visitMethodInvocation(tree, none);
        }
    }
}
