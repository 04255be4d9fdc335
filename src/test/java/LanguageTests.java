import com.sun.source.tree.ClassTree;
import com.sun.source.tree.CompilationUnitTree;
import com.sun.source.tree.MethodInvocationTree;
import com.sun.source.tree.MethodTree;
import com.sun.source.tree.NewClassTree;
import com.sun.source.tree.Tree;
import com.sun.source.tree.VariableTree;
import com.sun.source.util.JavacTask;
import com.sun.source.util.TreePathScanner;
import com.sun.source.util.Trees;
import java.io.File;
import java.io.IOException;
import java.lang.reflect.Constructor;
import java.lang.reflect.Field;
import java.lang.reflect.Method;
import java.lang.reflect.Modifier;
import java.nio.file.Files;
import java.nio.file.Path;
import java.util.ArrayList;
import java.util.HashMap;
import java.util.List;
import java.util.Map;
import java.util.Set;
import java.util.TreeSet;
import java.util.regex.Matcher;
import java.util.regex.Pattern;
import javax.lang.model.element.Element;
import javax.lang.model.element.ElementKind;
import javax.tools.JavaCompiler;
import javax.tools.StandardJavaFileManager;
import javax.tools.ToolProvider;

// What can be counted of ../shared/LANGUAGE.md, for the file that it binds. Run from the project's root.
public final class LanguageTests {
    private static final String FILE = "src/main/java/PulledWires.java";
    private static final Set<String> FACE = Set.of("say", "takeBack", "hear", "hold", "stick", "set", "run", "type",
            "clearText", "perform", "stopped", "undo", "keep", "restore", "speaker", "message", "listener", "bit",
            "winners", "emptyIn", "ifRun", "count");
    private static final Set<String> CONSTANTS = Set.of("UNKNOWN", "BAD_VALUE", "FULL", "NOT_POSSIBLE", "NONE");
    private static final Set<Tree.Kind> FORBIDDEN = Set.of(Tree.Kind.THROW, Tree.Kind.TRY, Tree.Kind.CATCH,
            Tree.Kind.SYNCHRONIZED, Tree.Kind.ASSERT, Tree.Kind.LAMBDA_EXPRESSION, Tree.Kind.MEMBER_REFERENCE);
    private static final Set<String> IMPORTS = Set.of("java.util.ArrayList", "java.util.Arrays", "java.util.Iterator",
            "java.util.List");

    // What rule 4 lists, by class; of Integer, Long and Math see inLibrary().
    private static final Map<String, Set<String>> LIBRARY = Map.of(
            "java.lang.String", Set.of("length()", "charAt(int)", "isEmpty()", "equals(java.lang.Object)",
                    "indexOf(int)", "substring(int)", "substring(int,int)", "toCharArray()", "String(char[])"),
            "java.lang.StringBuilder", Set.of("StringBuilder()", "append(char)", "append(java.lang.String)",
                    "append(int)", "charAt(int)", "setCharAt(int,char)", "setLength(int)", "deleteCharAt(int)",
                    "reverse()", "length()", "toString()"),
            "java.util.ArrayList", Set.of("<E>ArrayList()", "add(E)", "add(int,E)", "get(int)", "set(int,E)",
                    "remove(int)", "size()", "isEmpty()", "clear()"),
            "java.util.List", Set.of("add(E)", "add(int,E)", "get(int)", "set(int,E)", "remove(int)", "size()",
                    "isEmpty()", "clear()"),
            "java.lang.System", Set.of("arraycopy(java.lang.Object,int,java.lang.Object,int,int)"));

    private static int wrong = 0;

    /** Calls of the library that rule 4 lists; a few that it also lists, which are not used, are left out here. */
    private static boolean inLibrary(Element called) {
        String inClass = called.getEnclosingElement().toString();
        String name = called.toString();
        if (Set.of("java.lang.Integer", "java.lang.Long", "java.lang.Math").contains(inClass)) {
            return called.getModifiers().contains(javax.lang.model.element.Modifier.STATIC)
                    && name.matches("(?!\\w*Exact\\()\\w+\\((int|long)(,(int|long))*\\)");
        }
        return LIBRARY.getOrDefault(inClass, Set.of()).contains(name);
    }

    private static void rule(boolean holds, String text) {
        if (!holds) {
            wrong++;
            System.out.println("LanguageTests: " + text);
        }
    }

    private static void testFace() {
        Class<?> c = PulledWires.class;
        rule(Modifier.isPublic(c.getModifiers()) && Modifier.isFinal(c.getModifiers()), "the class is not public final");
        Set<String> methods = new TreeSet<>();
        for (Method m : c.getDeclaredMethods()) {
            if (!Modifier.isPrivate(m.getModifiers())) {
                rule(Modifier.isPublic(m.getModifiers()) && !Modifier.isStatic(m.getModifiers()), m + " is no public method");
                rule(m.getReturnType() == int.class, m + " returns no int");
                rule(methods.add(m.getName()), m + " is there twice");
            } else {
                rule(!FACE.contains(m.getName()), m + " bears the name of a public one");
            }
        }
        rule(methods.equals(FACE), "the methods are " + methods);
        Set<String> constants = new TreeSet<>();
        for (Field f : c.getDeclaredFields()) {
            if (!Modifier.isPrivate(f.getModifiers())) {
                constants.add(f.getName());
                rule(f.toString().startsWith("public static final int "), f + " is no public constant");
            }
        }
        rule(constants.equals(CONSTANTS), "the constants are " + constants);
        Constructor<?>[] constructors = c.getDeclaredConstructors();
        rule(constructors.length == 1 && Modifier.isPublic(constructors[0].getModifiers())
                && constructors[0].getParameterCount() == 0, "the constructor is another one");
        for (Class<?> inside : c.getDeclaredClasses()) {
            rule(Modifier.isStatic(inside.getModifiers()), inside + " is not static");
            rule(!Modifier.isPublic(inside.getModifiers()), inside + " is public");
            for (Method m : inside.getDeclaredMethods()) {
                rule(!FACE.contains(m.getName()), m + " bears the name of a public one");
            }
        }
    }

    /** Each declaration of the document's face, with its types and names, and its headings, in its order. */
    private static void testFaceOfTheDocument() throws IOException {
        String document = Files.readString(Path.of("../shared/DOC.md"));
        List<String> source = Files.readAllLines(Path.of(FILE)).stream().map(String::strip).toList();
        int last = -1;
        int found = 0;
        Matcher face = Pattern.compile("(?m)^ {4}(public .*);$").matcher(document);
        while (face.find()) {
            found++;
            boolean isConstant = face.group(1).contains("=");
            int at = source.indexOf(face.group(1) + (isConstant ? ";" : " {"));
            rule(at > last, "not there, or not in the document's order: " + face.group(1));
            last = Math.max(last, at);
        }
        rule(found == CONSTANTS.size() + 1 + FACE.size(), "the document has " + found + " declarations");
        Matcher headings = Pattern.compile("(?m)^Ahead of the calls `(\\w+)`.* the interface says: (---- .*)\\.$")
                .matcher(document);
        found = 0;
        while (headings.find()) {
            found++;
            int at = source.indexOf("// " + headings.group(2));
            String next = at < 0 ? "" : source.subList(at + 1, source.size()).stream()
                    .filter(line -> line.startsWith("public ")).findFirst().orElse("");
            rule(next.startsWith("public int " + headings.group(1) + "("), "not ahead of its calls: " + headings.group(2));
        }
        rule(found == 4, "the document has " + found + " headings of calls");
    }

    private static final class Scan extends TreePathScanner<Void, Void> {
        final Map<String, Set<String>> calls = new HashMap<>();
        final Trees trees;
        final CompilationUnitTree unit;
        String inMethod = "";
        int classes = 0;

        Scan(Trees trees, CompilationUnitTree unit) {
            this.trees = trees;
            this.unit = unit;
        }

        private long line(long position) {
            return unit.getLineMap().getLineNumber(position);
        }

        private static String name(Element e) {
            return e.getEnclosingElement() + "." + e;
        }

        @Override public Void scan(Tree tree, Void none) {
            if (tree != null) {
                rule(!FORBIDDEN.contains(tree.getKind()), tree.getKind() + ": " + tree);
            }
            return super.scan(tree, none);
        }

        @Override public Void visitClass(ClassTree tree, Void none) {
            classes++;
            int fields = 0;
            for (Tree member : tree.getMembers()) {
                if (member instanceof VariableTree v) {
                    boolean isStatic = v.getModifiers().getFlags().contains(javax.lang.model.element.Modifier.STATIC);
                    boolean isFinal = v.getModifiers().getFlags().contains(javax.lang.model.element.Modifier.FINAL);
                    rule(!isStatic || isFinal, "a static field that is not final: " + v);
                    fields += isStatic ? 0 : 1;
                }
                rule(member.getKind() != Tree.Kind.BLOCK, "an initialiser block");
            }
            rule(fields <= 20, tree.getSimpleName() + " has " + fields + " fields");
            return super.visitClass(tree, none);
        }

        @Override public Void visitMethod(MethodTree tree, Void none) {
            inMethod = name(trees.getElement(getCurrentPath()));
            calls.putIfAbsent(inMethod, new TreeSet<>());
            rule(tree.getParameters().size() <= 7, inMethod + " takes too many parameters");
            long first = line(trees.getSourcePositions().getStartPosition(unit, tree));
            long last = line(trees.getSourcePositions().getEndPosition(unit, tree));
            rule(last - first < 60, inMethod + " has " + (last - first + 1) + " lines");
            return super.visitMethod(tree, none);
        }

        private void call(Element called) {
            boolean isField = inMethod.isEmpty();
            if (!isField && called != null && (called.getKind() == ElementKind.METHOD
                    || called.getKind() == ElementKind.CONSTRUCTOR)) {
                calls.computeIfAbsent(inMethod, k -> new TreeSet<>()).add(name(called));
                boolean isOwn = called.getEnclosingElement().toString().startsWith("PulledWires");
                rule(isOwn || called.toString().equals("super()") || called.toString().equals("Object()")
                        || inLibrary(called), "not in the library: " + name(called));
            }
        }

        @Override public Void visitMethodInvocation(MethodInvocationTree tree, Void none) {
            call(trees.getElement(getCurrentPath()));
            return super.visitMethodInvocation(tree, none);
        }

        @Override public Void visitNewClass(NewClassTree tree, Void none) {
            rule(tree.getClassBody() == null, "an anonymous class");
            call(trees.getElement(getCurrentPath()));
            return super.visitNewClass(tree, none);
        }

        // The library's own methods are leaves here: they count as one call.
        int depth(String method, List<String> open) {
            rule(!open.contains(method), "a recursion: " + open + " " + method);
            if (open.contains(method)) {
                return 0;
            }
            open.add(method);
            int most = 0;
            for (String called : calls.getOrDefault(method, Set.of())) {
                most = Math.max(most, depth(called, open));
            }
            if (most == 0 && open.size() > 8) {
                rule(false, "calls are too deep: " + open);
            }
            open.remove(open.size() - 1);
            return most + 1;
        }
    }

    private static void testSource() throws Exception {
        JavaCompiler compiler = ToolProvider.getSystemJavaCompiler();
        StandardJavaFileManager files = compiler.getStandardFileManager(null, null, null);
        JavacTask task = (JavacTask) compiler.getTask(null, files, null, List.of("-proc:none"), null,
                files.getJavaFileObjects(new File(FILE)));
        CompilationUnitTree unit = task.parse().iterator().next();
        task.analyze();
        Scan scan = new Scan(Trees.instance(task), unit);
        scan.scan(unit, null);
        rule(unit.getPackageName() == null, "a package line");
        unit.getImports().forEach(i -> rule(!i.isStatic() && IMPORTS.contains(i.getQualifiedIdentifier().toString()),
                "not in the library: " + i));
        rule(unit.getTypeDecls().size() == 1, "more than one class on the outside");
        rule(scan.classes <= 12, scan.classes + " classes");
        int deepest = 0;
        for (String method : scan.calls.keySet()) {
            deepest = Math.max(deepest, scan.depth(method, new ArrayList<>()));
        }
        rule(deepest > 3, "the calls were not found");
        System.out.println("LanguageTests: the deepest call is " + deepest);
    }

    public static void main(String[] args) throws Exception {
        testFace();
        testFaceOfTheDocument();
        testSource();
        System.out.println("LanguageTests: " + wrong + " rules are not kept");
        if (wrong != 0) System.exit(1);
    }
}
