import com.sun.source.tree.*;
import com.sun.source.util.JavacTask;
import com.sun.source.util.TreeScanner;
import java.nio.file.Files;
import java.nio.file.Path;
import java.util.ArrayList;
import java.util.HashMap;
import java.util.HashSet;
import java.util.List;
import java.util.Map;
import java.util.Set;
import java.util.TreeSet;
import javax.lang.model.element.Modifier;
import javax.tools.JavaCompiler;
import javax.tools.JavaFileObject;
import javax.tools.StandardJavaFileManager;
import javax.tools.ToolProvider;

/** The rules of LANGUAGE.md that can be read off the source. */
public final class LanguageTest {
    private static final Path SOURCE = Path.of("src/main/java/Ambassadors.java");
    private static final Set<String> TYPES = Set.of("int", "long", "short", "byte", "char", "boolean", "double", "float",
        "void", "String", "StringBuilder", "Integer");
    private static final Set<String> LISTS = Set.of("ArrayList", "List", "Iterator", "Iterable", "Comparable");
    private static final Set<String> LIBRARY = Set.of("length", "charAt", "isEmpty", "equals", "indexOf", "substring",
        "toCharArray", "append", "setCharAt", "setLength", "deleteCharAt", "reverse", "toString", "add", "get", "set",
        "remove", "size", "clear", "of", "values", "ordinal", "iterator", "hasNext", "next", "compareTo", "compare", "max",
        "min", "abs", "bitCount", "signum", "numberOfTrailingZeros", "numberOfLeadingZeros", "highestOneBit",
        "lowestOneBit", "floorDiv", "floorMod", "arraycopy", "copyOf", "copyOfRange", "fill", "clone", "super", "this");
    private static final Set<String> IMPORTS = Set.of("java.util.Arrays", "java.util.ArrayList", "java.util.List",
        "java.util.Iterator");
    private static final Set<String> CONSTANTS = Set.of("int", "long", "boolean", "char", "String", "int[]", "long[]",
        "char[]", "byte[]");
    private static final Set<String> FACE = new TreeSet<>(Set.of("count", "set", "feed", "text", "force", "asks",
        "envoy", "hope", "told", "winner", "next", "steps", "move", "moved", "broken", "may", "call", "worth", "best",
        "canForce", "reach", "loosest", "deals", "judge", "end", "kinds", "starts", "laws", "film", "drawn", "odds",
        "image", "back", "sheet", "cell", "copy", "envoysBy", "taken"));

    private static String source;
    private static CompilationUnitTree unit;
    private static final Set<String> classes = new HashSet<>();
    private static final Map<String, Set<String>> calls = new HashMap<>();
    private static final Set<String> faceSeen = new TreeSet<>();

    public static void main(String[] args) throws Exception {
        source = Files.readString(SOURCE);
        JavaCompiler compiler = ToolProvider.getSystemJavaCompiler();
        StandardJavaFileManager files = compiler.getStandardFileManager(null, null, null);
        Iterable<? extends JavaFileObject> objects = files.getJavaFileObjects(SOURCE.toFile());
        JavacTask task = (JavacTask) compiler.getTask(null, files, null, List.of(), null, objects);
        unit = task.parse().iterator().next();
        signs();
        Check.due("classes at the top", unit.getTypeDecls().size(), 1);
        ClassTree top = (ClassTree) unit.getTypeDecls().get(0);
        for (ImportTree i : unit.getImports()) {
            rule("4: " + i, IMPORTS.contains(i.getQualifiedIdentifier().toString()));
        }
        new Classes().scan(top, null);
        rule("11: at most some twelve classes", classes.size() <= 12);
        classes.forEach(c -> rule("a class's name is no library's", !Set.of("Object", "System").contains(c)));
        new Rules().scan(top, null);
        Check.due("the face", faceSeen.equals(FACE) ? 1 : 0, 1);
        for (String method : calls.keySet()) {
            int deep = deep(method, new ArrayList<>());
            rule("11: calls at most eight deep from " + method + ": " + deep, deep <= 8);
        }
        Check.finish();
    }

    private static void rule(String what, boolean kept) {
        Check.due("rule " + what, kept ? 1 : 0, 1);
    }

    private static void signs() {
        for (int i = 0; i < source.length(); i++) {
            char c = source.charAt(i);
            if (c != '\n' && (c < 32 || c > 126)) {
                rule("4: a sign of number " + (int) c, false);
            }
        }
    }

    /** The longest chain of calls that are no recursion. */
    private static int deep(String method, List<String> open) {
        if (open.contains(method)) {
            return 0;
        }
        open.add(method);
        int most = 0;
        for (String other : calls.getOrDefault(method, Set.of())) {
            if (!recursive(method, other)) {
                most = Math.max(most, deep(other, open));
            } else {
                most = Math.max(most, deep(other, open) - 1);
            }
        }
        open.remove(method);
        return most + 1;
    }

    private static boolean recursive(String method, String other) {
        Set<String> seen = new HashSet<>();
        List<String> next = new ArrayList<>(List.of(other));
        while (!next.isEmpty()) {
            String m = next.remove(0);
            if (m.equals(method)) {
                return true;
            }
            if (seen.add(m)) {
                next.addAll(calls.getOrDefault(m, Set.of()));
            }
        }
        return false;
    }

    private static String named(MethodTree m, String inClass) {
        return m.getName().toString().replace("<init>", "new " + inClass);
    }

    private static final class Classes extends TreeScanner<Void, Void> {
        private String inClass = "";

        @Override
        public Void visitClass(ClassTree c, Void v) {
            String was = inClass;
            inClass = c.getSimpleName().toString();
            classes.add(inClass);
            super.visitClass(c, v);
            inClass = was;
            return null;
        }

        @Override
        public Void visitMethod(MethodTree m, Void v) {
            calls.put(named(m, inClass), new TreeSet<>());
            return super.visitMethod(m, v);
        }
    }

    private static final class Rules extends TreeScanner<Void, Void> {
        private String inClass = "";
        private String inMethod = "";

        @Override
        public Void visitClass(ClassTree c, Void v) {
            String name = c.getSimpleName().toString();
            Set<Modifier> flags = c.getModifiers().getFlags();
            if (inClass.isEmpty()) {
                rule("1: public and final", flags.equals(Set.of(Modifier.PUBLIC, Modifier.FINAL)));
            } else {
                rule("1: " + name + " is private or package-visible", !flags.contains(Modifier.PUBLIC)
                    && !flags.contains(Modifier.PROTECTED));
                boolean ofItself = Set.of(Tree.Kind.ENUM, Tree.Kind.RECORD, Tree.Kind.INTERFACE).contains(c.getKind());
                rule("2: " + name + " is static", ofItself || flags.contains(Modifier.STATIC));
                rule("2: " + name + " has a name, stands in the class", !name.isEmpty() && inMethod.isEmpty());
            }
            int fields = 0;
            for (Tree t : c.getMembers()) {
                rule("5: no initialiser block in " + name, t.getKind() != Tree.Kind.BLOCK);
                if (t instanceof VariableTree f) {
                    fields += f.getModifiers().getFlags().contains(Modifier.STATIC) ? 0 : 1;
                    if (c.getKind() != Tree.Kind.ENUM && c.getKind() != Tree.Kind.INTERFACE) {
                        field(f, inClass.isEmpty());
                    }
                }
            }
            rule("11: at most some twenty fields in " + name, fields <= 20);
            String was = inClass;
            inClass = name;
            super.visitClass(c, v);
            inClass = was;
            return null;
        }

        private void field(VariableTree f, boolean ofFace) {
            Set<Modifier> flags = f.getModifiers().getFlags();
            String name = f.getName().toString();
            if (flags.contains(Modifier.STATIC)) {
                rule("5: " + name + " is final", flags.contains(Modifier.FINAL));
                String type = f.getType().toString();
                rule("5: " + name + "'s type", CONSTANTS.contains(type) || classes.contains(type.replace("[]", "")));
            }
            boolean constant = Set.of("NONE", "BAD", "STATE", "FULL", "NO").contains(name);
            Set<Modifier> face = Set.of(Modifier.PUBLIC, Modifier.STATIC, Modifier.FINAL);
            rule("1: " + name, !ofFace || (constant ? flags.equals(face) : flags.contains(Modifier.PRIVATE)));
        }

        @Override
        public Void visitMethod(MethodTree m, Void v) {
            String name = m.getName().toString();
            boolean open = m.getModifiers().getFlags().contains(Modifier.PUBLIC);
            if (inClass.equals("Ambassadors") && open && !name.equals("<init>")) {
                faceSeen.add(name);
            } else if (!name.equals("<init>")) {
                boolean own = m.getModifiers().getFlags().contains(Modifier.PRIVATE);
                rule("1: " + name + " is private", own || !inClass.equals("Ambassadors"));
                rule("1: " + name + " is no public one's name", !own || !FACE.contains(name));
            }
            rule("11: " + name + " takes seven at most", m.getParameters().size() <= 7);
            String text = m.toString();
            rule("11: " + name + " is short: " + text.lines().count(), text.lines().count() <= 66);
            String was = inMethod;
            inMethod = named(m, inClass);
            super.visitMethod(m, v);
            inMethod = was;
            return null;
        }

        @Override
        public Void visitVariable(VariableTree t, Void v) {
            String type = t.getType() == null ? "var" : t.getType().toString().replace("[]", "").replaceFirst("<.*", "");
            boolean own = classes.contains(type) || type.matches("[A-Z]");
            rule("3: type " + type, own || TYPES.contains(type) || LISTS.contains(type));
            return super.visitVariable(t, v);
        }

        @Override
        public Void visitMethodInvocation(MethodInvocationTree t, Void v) {
            String called = t.getMethodSelect().toString().replaceFirst(".*\\.", "");
            boolean own = calls.containsKey(called);
            rule("4: " + t.getMethodSelect(), own || LIBRARY.contains(called));
            if (own) {
                calls.get(inMethod).add(called);
            }
            return super.visitMethodInvocation(t, v);
        }

        @Override
        public Void visitNewClass(NewClassTree t, Void v) {
            String made = t.getIdentifier().toString().replaceFirst("<.*", "");
            boolean library = Set.of("String", "StringBuilder", "ArrayList").contains(made);
            rule("3: new " + made, (library || classes.contains(made)) && t.getClassBody() == null);
            if (!inMethod.isEmpty()) {
                calls.get(inMethod).add("new " + t.getIdentifier());
            }
            return super.visitNewClass(t, v);
        }

        @Override
        public Void scan(Tree t, Void v) {
            if (t != null) {
                switch (t.getKind()) {
                    case THROW: case TRY: case CATCH: case SYNCHRONIZED: case ASSERT: case LAMBDA_EXPRESSION:
                    case MEMBER_REFERENCE: case ANNOTATION_TYPE:
                        rule("2, 6: a " + t.getKind() + ": " + t, false);
                        break;
                    default:
                }
            }
            return super.scan(t, v);
        }

        @Override
        public Void visitBinary(BinaryTree t, Void v) {
            boolean texts = t.getKind() == Tree.Kind.PLUS && (t.toString().contains("\""));
            rule("10: texts by + : " + t, !texts);
            return super.visitBinary(t, v);
        }

        @Override
        public Void visitTypeCast(TypeCastTree t, Void v) {
            String type = t.getType().toString();
            rule("6: a cast to " + type, TYPES.contains(type) || classes.contains(type));
            return super.visitTypeCast(t, v);
        }

        @Override
        public Void visitForLoop(ForLoopTree t, Void v) {
            rule("9: a loop without an end", t.getCondition() != null);
            return super.visitForLoop(t, v);
        }
    }
}
