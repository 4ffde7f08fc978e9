import com.sun.source.tree.AssertTree;
import com.sun.source.tree.ClassTree;
import com.sun.source.tree.CompilationUnitTree;
import com.sun.source.tree.InstanceOfTree;
import com.sun.source.tree.LambdaExpressionTree;
import com.sun.source.tree.MemberReferenceTree;
import com.sun.source.tree.MethodInvocationTree;
import com.sun.source.tree.MethodTree;
import com.sun.source.tree.NewClassTree;
import com.sun.source.tree.SynchronizedTree;
import com.sun.source.tree.ThrowTree;
import com.sun.source.tree.Tree;
import com.sun.source.tree.TryTree;
import com.sun.source.tree.TypeCastTree;
import com.sun.source.tree.VariableTree;
import com.sun.source.util.JavacTask;
import com.sun.source.util.SourcePositions;
import com.sun.source.util.TreePath;
import com.sun.source.util.TreePathScanner;
import com.sun.source.util.Trees;
import java.io.File;
import java.lang.reflect.Constructor;
import java.lang.reflect.Field;
import java.lang.reflect.Method;
import java.lang.reflect.Modifier;
import java.util.ArrayList;
import java.util.Arrays;
import java.util.HashMap;
import java.util.HashSet;
import java.util.List;
import java.util.Map;
import java.util.Set;
import java.util.TreeMap;
import java.util.TreeSet;
import javax.lang.model.element.Element;
import javax.lang.model.element.ElementKind;
import javax.lang.model.element.ExecutableElement;
import javax.tools.JavaCompiler;
import javax.tools.StandardJavaFileManager;
import javax.tools.ToolProvider;

/** What of LANGUAGE.md a program can look at: the face, the library, the forms, the sizes, the depth of calls. */
public final class LanguageTests {
    private static final String FACE = "feed(int,int,int,int,int)int end(int)boolean fault(int)int text(int)int "
        + "kite(int,int)int law(int)int holds(int,int)boolean wind(int,int)int lift(int)int wear(int,int)int "
        + "feet(int)int result()int mode(int,int)boolean wax(int)int move(int,int)int splice(int,int,int)int "
        + "talk(int,int)boolean go(int)int gust(int)boolean gusts(int,long)int sit()int book(int)int undo()int "
        + "ahead(int,int,int)int bell(int)int cut(int)int calm()int timing(int,int)int stand(int,int)int "
        + "cross(int,int)int prey(int)int power(int)int talked()int content(int)int ringer(int)int "
        + "duel(int,int,int,int)int rests(int,int,int)int clan(int,int)int see(int,int,int)int weighs(int)int "
        + "spare(int)int lonely()int highest()int image()int back()int count(int)int";
    private static final Set<String> LIBRARY = Set.of("java.lang.String.length", "java.lang.String.indexOf",
        "java.lang.Math.min", "java.lang.Math.max", "java.lang.Integer.bitCount",
        "java.lang.System.arraycopy");

    private static Trees trees;
    private static CompilationUnitTree unit;
    private static final Map<String, Set<String>> CALLS = new TreeMap<>();

    private LanguageTests() {
    }

    public static void main(String[] args) throws Exception {
        face();
        JavaCompiler compiler = ToolProvider.getSystemJavaCompiler();
        try (StandardJavaFileManager files = compiler.getStandardFileManager(null, null, null)) {
            JavacTask task = (JavacTask) compiler.getTask(null, files, null, List.of("-proc:none"), null,
                files.getJavaFileObjects(new File("src/main/java/KiteVote.java")));
            unit = task.parse().iterator().next();
            task.analyze();
            trees = Trees.instance(task);
            Due.part("rule 4");
            Due.is("imports", unit.getImports().size(), 1);
            Due.is("the import", unit.getImports().get(0).toString().trim()
                .equals("import java.util.NoSuchElementException;"), true);
            new Scan().scan(unit, null);
        }
        depths();
        room();
        Due.close();
    }

    private static void face() {
        Due.part("rule 1");
        Set<String> face = new TreeSet<>(Arrays.asList(FACE.split(" ")));
        Set<String> names = new HashSet<>();
        face.forEach(f -> names.add(f.substring(0, f.indexOf('('))));
        Set<String> found = new TreeSet<>();
        for (Method m : KiteVote.class.getDeclaredMethods()) {
            if (Modifier.isPublic(m.getModifiers())) {
                StringBuilder s = new StringBuilder();
                for (Class<?> p : m.getParameterTypes()) {
                    s.append(s.length() == 0 ? "" : ",").append(p.getName());
                }
                found.add(m.getName() + "(" + s + ")" + m.getReturnType().getName());
            } else {
                Due.is(m.getName() + " is private", Modifier.isPrivate(m.getModifiers()), true);
                Due.is(m.getName() + " bears a name of the face", names.contains(m.getName()), false);
            }
        }
        Due.is("the face", found.equals(face), true);
        for (Field f : KiteVote.class.getDeclaredFields()) {
            boolean named = f.getName().equals("NONE") || f.getName().equals("HIDDEN");
            int m = f.getModifiers();
            Due.is(f.getName() + " is private", named ? Modifier.isPublic(m) : Modifier.isPrivate(m), true);
        }
        Constructor<?>[] made = KiteVote.class.getDeclaredConstructors();
        Due.is("constructors", made.length, 1);
        Due.is("the class is final", Modifier.isFinal(KiteVote.class.getModifiers()), true);
        Due.is("classes, the outer one too, at most twelve", KiteVote.class.getDeclaredClasses().length <= 11, true);
        for (Class<?> c : KiteVote.class.getDeclaredClasses()) {
            Due.is(c.getName() + " is private", Modifier.isPrivate(c.getModifiers()), true);
            Due.is(c.getName() + " is static", Modifier.isStatic(c.getModifiers()), true);
            for (Method m : c.getDeclaredMethods()) {
                Due.is(c.getName() + "." + m.getName() + " bears a name of the face", names.contains(m.getName()), false);
            }
        }
    }

    private static String name(Element e) {
        return e.getEnclosingElement() + "." + e.getSimpleName()
            + (e.getKind() == ElementKind.CONSTRUCTOR ? "" : ((ExecutableElement) e).getParameters().size());
    }

    private static final class Scan extends TreePathScanner<Void, Void> {
        private String method = "";

        private void no(Tree t) {
            Due.is("line " + unit.getLineMap().getLineNumber(trees.getSourcePositions().getStartPosition(unit, t))
                + ": " + t.getKind(), 1, 0);
        }

        @Override
        public Void visitClass(ClassTree t, Void v) {
            Due.part("rules 5, 11");
            int fields = 0;
            for (Tree m : t.getMembers()) {
                if (m.getKind() == Tree.Kind.BLOCK) {
                    no(m);
                }
                if (!(m instanceof VariableTree)) {
                    continue;
                }
                Set<javax.lang.model.element.Modifier> is = ((VariableTree) m).getModifiers().getFlags();
                boolean isStatic = is.contains(javax.lang.model.element.Modifier.STATIC);
                fields += isStatic ? 0 : 1;
                Due.is(m + " final", !isStatic || is.contains(javax.lang.model.element.Modifier.FINAL), true);
            }
            Due.is("fields of " + t.getSimpleName() + " at most 20", fields <= 20, true);
            return super.visitClass(t, v);
        }

        @Override
        public Void visitMethod(MethodTree t, Void v) {
            Due.part("rule 11");
            SourcePositions at = trees.getSourcePositions();
            long lines = unit.getLineMap().getLineNumber(at.getEndPosition(unit, t))
                - unit.getLineMap().getLineNumber(at.getStartPosition(unit, t)) + 1;
            Due.is(t.getName() + " has at most 60 lines", lines <= 60, true);
            Due.is(t.getName() + " has at most 7 parameters", t.getParameters().size() <= 7, true);
            method = name(trees.getElement(getCurrentPath()));
            CALLS.computeIfAbsent(method, k -> new TreeSet<>());
            return super.visitMethod(t, v);
        }

        @Override
        public Void visitMethodInvocation(MethodInvocationTree t, Void v) {
            called(trees.getElement(new TreePath(getCurrentPath(), t.getMethodSelect())));
            return super.visitMethodInvocation(t, v);
        }

        @Override
        public Void visitNewClass(NewClassTree t, Void v) {
            if (!method.endsWith("<init>") && !t.toString().equals("new NoSuchElementException()")
                && !t.toString().startsWith("new Draws(")) {
                no(t);
            }
            called(trees.getElement(getCurrentPath()));
            return super.visitNewClass(t, v);
        }

        private void called(Element e) {
            Due.part("rule 4");
            String owner = e.getEnclosingElement().toString();
            if (owner.startsWith("KiteVote")) {
                CALLS.computeIfAbsent(method, k -> new TreeSet<>()).add(name(e));
            } else if (e.getKind() != ElementKind.CONSTRUCTOR) {
                Due.is(owner + "." + e.getSimpleName(), LIBRARY.contains(owner + "." + e.getSimpleName()), true);
            }
        }

        @Override
        public Void visitTypeCast(TypeCastTree t, Void v) {
            Due.part("rule 6");
            String type = t.getType().toString();
            Due.is("a cast to " + type, type.equals("int") || type.equals("long") || type.equals("char"), true);
            return super.visitTypeCast(t, v);
        }

        @Override
        public Void visitThrow(ThrowTree t, Void v) {
            Due.part("rule 6");
            Due.is("throws in " + method, method.equals("KiteVote.kite2"), true);
            return super.visitThrow(t, v);
        }

        @Override
        public Void visitTry(TryTree t, Void v) {
            no(t);
            return super.visitTry(t, v);
        }

        @Override
        public Void visitLambdaExpression(LambdaExpressionTree t, Void v) {
            no(t);
            return super.visitLambdaExpression(t, v);
        }

        @Override
        public Void visitMemberReference(MemberReferenceTree t, Void v) {
            no(t);
            return super.visitMemberReference(t, v);
        }

        @Override
        public Void visitInstanceOf(InstanceOfTree t, Void v) {
            no(t);
            return super.visitInstanceOf(t, v);
        }

        @Override
        public Void visitAssert(AssertTree t, Void v) {
            no(t);
            return super.visitAssert(t, v);
        }

        @Override
        public Void visitSynchronized(SynchronizedTree t, Void v) {
            no(t);
            return super.visitSynchronized(t, v);
        }
    }

    // ---- the depth of calls: methods that call one another in a ring count as one

    private static void depths() {
        Due.part("rule 11");
        Map<String, Set<String>> reach = new HashMap<>();
        for (String m : CALLS.keySet()) {
            Set<String> seen = new HashSet<>();
            List<String> open = new ArrayList<>(List.of(m));
            while (!open.isEmpty()) {
                for (String to : CALLS.getOrDefault(open.remove(0), Set.of())) {
                    if (seen.add(to)) {
                        open.add(to);
                    }
                }
            }
            reach.put(m, seen);
        }
        for (String m : CALLS.keySet()) {
            if (reach.get(m).contains(m)) {
                Due.is(m + " is of a reader of laws", m.startsWith("KiteVote.LawReader.read"), true);
            }
            Due.is("depth of " + m + " is at most 8", depth(m, reach, new HashMap<>()) <= 8, true);
        }
    }

    private static int depth(String m, Map<String, Set<String>> reach, Map<String, Integer> known) {
        if (known.containsKey(m)) {
            return known.get(m);
        }
        int most = 0;
        List<String> ring = new ArrayList<>(List.of(m));
        for (String to : CALLS.keySet()) {
            if (!to.equals(m) && reach.get(m).contains(to) && reach.get(to).contains(m)) {
                ring.add(to);
            }
        }
        for (String from : ring) {
            for (String to : CALLS.get(from)) {
                if (!ring.contains(to)) {
                    most = Math.max(most, depth(to, reach, known));
                }
            }
        }
        known.put(m, most + 1);
        return most + 1;
    }

    // ---- the room: what a new object takes, arrays and fields added up

    private static long elements;
    private static long objects;

    private static void room() throws Exception {
        Due.part("room");
        count(new KiteVote(), new java.util.IdentityHashMap<>());
        System.out.println("a new object takes " + objects + " objects and arrays, " + elements + " fields and elements");
        Due.is("512 objects have room", objects * 512 < 600000 && elements * 512 < 7300000, true);
    }

    private static void count(Object o, java.util.IdentityHashMap<Object, Object> seen) throws Exception {
        if (o == null || o instanceof String || seen.put(o, o) != null) {
            return;
        }
        objects++;
        if (o.getClass().isArray()) {
            int n = java.lang.reflect.Array.getLength(o);
            elements += n;
            for (int i = 0; i < n && !o.getClass().getComponentType().isPrimitive(); i++) {
                count(java.lang.reflect.Array.get(o, i), seen);
            }
            return;
        }
        for (Field f : o.getClass().getDeclaredFields()) {
            if (!Modifier.isStatic(f.getModifiers())) {
                elements++;
                f.setAccessible(true);
                if (!f.getType().isPrimitive()) {
                    count(f.get(o), seen);
                }
            }
        }
    }
}
