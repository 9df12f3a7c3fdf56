import com.sun.source.tree.BinaryTree;
import com.sun.source.tree.CatchTree;
import com.sun.source.tree.ClassTree;
import com.sun.source.tree.CompilationUnitTree;
import com.sun.source.tree.LambdaExpressionTree;
import com.sun.source.tree.MemberReferenceTree;
import com.sun.source.tree.MethodInvocationTree;
import com.sun.source.tree.MethodTree;
import com.sun.source.tree.NewArrayTree;
import com.sun.source.tree.NewClassTree;
import com.sun.source.tree.Tree;
import com.sun.source.tree.TryTree;
import com.sun.source.tree.VariableTree;
import com.sun.source.util.JavacTask;
import com.sun.source.util.TreePath;
import com.sun.source.util.TreePathScanner;
import com.sun.source.util.Trees;
import java.io.File;
import java.lang.reflect.Constructor;
import java.lang.reflect.Field;
import java.lang.reflect.Method;
import java.lang.reflect.Modifier;
import java.util.ArrayList;
import java.util.HashMap;
import java.util.HashSet;
import java.util.LinkedHashSet;
import java.util.List;
import java.util.Map;
import java.util.Set;
import java.util.TreeSet;
import javax.lang.model.element.Element;
import javax.lang.model.element.ExecutableElement;
import javax.lang.model.element.TypeElement;
import javax.lang.model.type.TypeKind;
import javax.tools.JavaCompiler;
import javax.tools.StandardJavaFileManager;
import javax.tools.ToolProvider;

/** LANGUAGE.md's rules about the file, as far as a look at its trees can tell. */
public final class LanguageTests {
    private static final String[] FACE = {
        "feed(int,int,int,int,int)int", "city(int)int", "fault()int", "count(int)int", "person(int,int)int",
        "walk(int,int)int", "move(int,int)void", "weep(int,int,int)int", "tears(int,int)int", "name(int,int)int",
        "houses(int,int)int", "letter(int,int)int", "post(int,int)int", "round(int)int", "rounded(int)int",
        "holds(int,int)boolean", "stranger(int,int)int", "write(int)int", "clear()int", "register(int,int)int",
        "will(int,int,int,int,int)int", "last(int)int", "nobody(int)int", "behind(int,int,int)int", "dry(int)int",
        "mourner(int)int", "image()void", "restore()boolean",
    };
    private static final Set<String> LIBRARY = Set.of("java.lang.Math.min", "java.lang.Math.max",
            "java.lang.Integer.bitCount", "java.lang.String.length", "java.lang.String.charAt",
            "java.util.Arrays.fill", "java.lang.System.arraycopy", "java.lang.Object.<init>");
    private static final Set<String> MADE = Set.of("java.util.NoSuchElementException",
            "java.lang.IllegalArgumentException");

    private final Map<String, Set<String>> calls = new HashMap<>();
    private final Set<String> methods = new LinkedHashSet<>();
    private int classes = 0;

    public static void main(String[] args) throws Exception {
        face();
        new LanguageTests().source("src/main/java/TearsPost.java");
        Check.finish("LanguageTests");
    }

    private static void wrong(String what) {
        Check.same(what, 0, 1);
    }

    private static void face() {
        Set<String> due = new TreeSet<>(List.of(FACE));
        Set<String> open = new TreeSet<>();
        Set<String> closed = new TreeSet<>();
        for (Method method : TearsPost.class.getDeclaredMethods()) {
            if (Modifier.isPrivate(method.getModifiers())) {
                closed.add(method.getName());
                continue;
            }
            StringBuilder types = new StringBuilder();
            for (Class<?> type : method.getParameterTypes()) {
                types.append(types.length() == 0 ? "" : ",").append(type);
            }
            Check.same("whether " + method + " is public", 1, Modifier.isPublic(method.getModifiers()) ? 1 : 0);
            open.add(method.getName() + "(" + types + ")" + method.getReturnType());
        }
        for (Class<?> inside : TearsPost.class.getDeclaredClasses()) {
            Check.same("whether " + inside + " is public", 0, Modifier.isPublic(inside.getModifiers()) ? 1 : 0);
            for (Method method : inside.getDeclaredMethods()) {
                closed.add(method.getName());
            }
        }
        Check.same("the face " + open, due.hashCode(), open.hashCode());
        for (String method : due) {
            String name = method.substring(0, method.indexOf('('));
            Check.same("a private method named " + name, 0, closed.contains(name) ? 1 : 0);
        }
        for (Field field : TearsPost.class.getDeclaredFields()) {
            boolean may = field.getName().equals("NONE") || Modifier.isPrivate(field.getModifiers());
            Check.same("whether " + field + " may be seen", 1, may ? 1 : 0);
        }
        Constructor<?>[] constructors = TearsPost.class.getDeclaredConstructors();
        Check.same("constructors", 1, constructors.length);
        Check.same("whether it is public", 1, Modifier.isPublic(constructors[0].getModifiers()) ? 1 : 0);
        Check.same("whether the class is public and final", Modifier.PUBLIC | Modifier.FINAL,
                TearsPost.class.getModifiers());
    }

    private void source(String file) throws Exception {
        JavaCompiler compiler = ToolProvider.getSystemJavaCompiler();
        StandardJavaFileManager files = compiler.getStandardFileManager(null, null, null);
        JavacTask task = (JavacTask) compiler.getTask(null, files, null, List.of("-proc:none"), null,
                files.getJavaFileObjects(new File(file)));
        Iterable<? extends CompilationUnitTree> units = task.parse();
        task.analyze();
        for (CompilationUnitTree unit : units) {
            new Rules(Trees.instance(task), unit).scan(unit, null);
        }
        Check.same("whether there are more than 12 classes", 0, classes > 12 ? 1 : 0);
        int deepest = 0;
        List<Set<String>> rings = rings();
        for (String method : methods) {
            deepest = Math.max(deepest, depth(method, rings));
        }
        Check.same("whether calls go deeper than 8: " + deepest, 0, deepest > 8 ? 1 : 0);
    }

    /** Methods that call one another, together: a ring counts as one call deep. */
    private List<Set<String>> rings() {
        List<Set<String>> rings = new ArrayList<>();
        for (String method : methods) {
            Set<String> ring = new HashSet<>(Set.of(method));
            for (String other : methods) {
                if (reached(method).contains(other) && reached(other).contains(method)) {
                    ring.add(other);
                }
            }
            rings.add(ring);
        }
        return rings;
    }

    private Set<String> reached(String method) {
        Set<String> found = new LinkedHashSet<>();
        List<String> next = new ArrayList<>(calls.getOrDefault(method, Set.of()));
        while (!next.isEmpty()) {
            String one = next.remove(next.size() - 1);
            if (found.add(one)) {
                next.addAll(calls.getOrDefault(one, Set.of()));
            }
        }
        return found;
    }

    private int depth(String method, List<Set<String>> rings) {
        Set<String> ring = Set.of(method);
        for (Set<String> other : rings) {
            ring = other.contains(method) ? other : ring;
        }
        int below = 0;
        for (String member : ring) {
            for (String called : calls.getOrDefault(member, Set.of())) {
                if (!ring.contains(called)) {
                    below = Math.max(below, depth(called, rings));
                }
            }
        }
        return 1 + below;
    }

    private final class Rules extends TreePathScanner<Void, Void> {
        private final Trees trees;
        private final CompilationUnitTree unit;
        private String method = "";

        private Rules(Trees trees, CompilationUnitTree unit) {
            this.trees = trees;
            this.unit = unit;
        }

        private long line(long place) {
            return unit.getLineMap().getLineNumber(place);
        }

        private Element element() {
            return trees.getElement(getCurrentPath());
        }

        private String named(ExecutableElement element) {
            return element.getEnclosingElement() + "." + element.getSimpleName();
        }

        @Override
        public Void visitClass(ClassTree tree, Void none) {
            classes++;
            int fields = 0;
            for (Tree member : tree.getMembers()) {
                boolean constant = member instanceof VariableTree variable
                        && variable.getModifiers().getFlags().contains(javax.lang.model.element.Modifier.STATIC);
                fields += member instanceof VariableTree && !constant ? 1 : 0;
                if (constant && !((VariableTree) member).getModifiers().getFlags()
                        .contains(javax.lang.model.element.Modifier.FINAL)) {
                    wrong("a static field that is not final: " + member);
                }
                if (member.getKind() == Tree.Kind.BLOCK) {
                    wrong("an initialiser block");
                }
            }
            Check.same("whether " + tree.getSimpleName() + " has more than 20 fields", 0, fields > 20 ? 1 : 0);
            return super.visitClass(tree, none);
        }

        @Override
        public Void visitMethod(MethodTree tree, Void none) {
            String outer = method;
            method = named((ExecutableElement) element());
            methods.add(method);
            Check.same("whether " + method + " takes more than 7", 0, tree.getParameters().size() > 7 ? 1 : 0);
            long begin = line(trees.getSourcePositions().getStartPosition(unit, tree));
            long end = line(trees.getSourcePositions().getEndPosition(unit, tree));
            Check.same("whether " + method + " is longer than 60", 0, end - begin > 60 ? 1 : 0);
            super.visitMethod(tree, none);
            method = outer;
            return null;
        }

        @Override
        public Void visitMethodInvocation(MethodInvocationTree tree, Void none) {
            ExecutableElement called = (ExecutableElement) trees.getElement(
                    new TreePath(getCurrentPath(), tree.getMethodSelect()));
            String name = named(called);
            if (name.startsWith("TearsPost")) {
                calls.computeIfAbsent(method, key -> new LinkedHashSet<>()).add(name);
            } else {
                Check.same("whether the library's " + name + " may be called", 1, LIBRARY.contains(name) ? 1 : 0);
            }
            return super.visitMethodInvocation(tree, none);
        }

        @Override
        public Void visitNewClass(NewClassTree tree, Void none) {
            TypeElement made = (TypeElement) element().getEnclosingElement();
            boolean may = made.toString().startsWith("TearsPost.") || MADE.contains(made.toString());
            Check.same("whether a " + made + " may be made", 1, may ? 1 : 0);
            return super.visitNewClass(tree, none);
        }

        @Override
        public Void visitNewArray(NewArrayTree tree, Void none) {
            Check.same("whether an array is made in " + method, 0, method.isEmpty() ? 0 : 1);
            return super.visitNewArray(tree, none);
        }

        @Override
        public Void visitBinary(BinaryTree tree, Void none) {
            boolean text = trees.getTypeMirror(getCurrentPath()).getKind() == TypeKind.DECLARED;
            Check.same("whether + joins texts", 0, text ? 1 : 0);
            return super.visitBinary(tree, none);
        }

        @Override
        public Void visitLambdaExpression(LambdaExpressionTree tree, Void none) {
            wrong("a lambda in " + method);
            return super.visitLambdaExpression(tree, none);
        }

        @Override
        public Void visitMemberReference(MemberReferenceTree tree, Void none) {
            wrong("a method reference in " + method);
            return super.visitMemberReference(tree, none);
        }

        @Override
        public Void visitTry(TryTree tree, Void none) {
            wrong("a try in " + method);
            return super.visitTry(tree, none);
        }

        @Override
        public Void visitCatch(CatchTree tree, Void none) {
            wrong("a catch in " + method);
            return super.visitCatch(tree, none);
        }
    }
}
