import com.sun.source.tree.AssertTree;
import com.sun.source.tree.CatchTree;
import com.sun.source.tree.ClassTree;
import com.sun.source.tree.CompilationUnitTree;
import com.sun.source.tree.ImportTree;
import com.sun.source.tree.LambdaExpressionTree;
import com.sun.source.tree.LiteralTree;
import com.sun.source.tree.MemberReferenceTree;
import com.sun.source.tree.MethodInvocationTree;
import com.sun.source.tree.MethodTree;
import com.sun.source.tree.NewClassTree;
import com.sun.source.tree.SynchronizedTree;
import com.sun.source.tree.ThrowTree;
import com.sun.source.tree.Tree;
import com.sun.source.tree.TryTree;
import com.sun.source.tree.VariableTree;
import com.sun.source.util.JavacTask;
import com.sun.source.util.TreePathScanner;
import com.sun.source.util.Trees;
import java.nio.file.Path;
import java.util.ArrayList;
import java.util.HashMap;
import java.util.HashSet;
import java.util.List;
import java.util.Map;
import java.util.Set;
import java.util.TreeSet;
import javax.lang.model.element.Element;
import javax.lang.model.element.ElementKind;
import javax.lang.model.element.ExecutableElement;
import javax.lang.model.element.Modifier;
import javax.lang.model.element.TypeElement;
import javax.lang.model.element.VariableElement;
import javax.tools.JavaCompiler;
import javax.tools.StandardJavaFileManager;
import javax.tools.ToolProvider;

/** What can be counted of LANGUAGE.md's rules, over src/main/java/FlakeArms.java. */
public final class LanguageTest {
    private static final String FILE = "src/main/java/FlakeArms.java";
    private static final Set<String> LIBRARY = Set.of("length", "charAt", "isEmpty", "abs", "max", "min",
        "arraycopy", "bitCount", "compare", "floorMod", "floorDiv");
    private static final String[] FACE = {"feed", "law", "begin", "cell", "freeze", "size", "arm", "layer",
        "unlike", "apart", "copy", "meet", "breaks", "growth", "growthOf", "wouldBe", "grow", "miss", "seed", "air",
        "airOf", "picks", "picked", "fall", "odds", "found", "forms", "prove", "row", "alterRow", "judge", "copies",
        "sheet", "put", "item", "shelf", "taken", "act", "trace", "many", "keep", "again"};

    private static int wrong;

    private static void need(boolean holds, String rule) {
        if (!holds) {
            wrong++;
            System.out.println("LANGUAGE.md, " + rule);
        }
    }

    public static void main(String[] args) throws Exception {
        JavaCompiler javac = ToolProvider.getSystemJavaCompiler();
        StandardJavaFileManager files = javac.getStandardFileManager(null, null, null);
        JavacTask task = (JavacTask) javac.getTask(null, files, null, List.of("-proc:none"), null,
            files.getJavaFileObjects(Path.of(FILE)));
        CompilationUnitTree unit = task.parse().iterator().next();
        task.analyze();
        Reader reader = new Reader(Trees.instance(task), unit);
        reader.scan(unit, null);
        reader.end();
        System.out.println(reader.classes + " classes, " + reader.methods.size() + " methods, calls "
            + reader.deepest + " deep, " + wrong + " rules broken");
        if (wrong != 0) {
            System.exit(1);
        }
    }

    private static final class Reader extends TreePathScanner<Void, Void> {
        final Trees trees;
        final CompilationUnitTree unit;
        final Map<ExecutableElement, Set<ExecutableElement>> methods = new HashMap<>();
        final Set<String> face = new TreeSet<>();
        int classes;
        int deepest;
        ExecutableElement in;

        Reader(Trees trees, CompilationUnitTree unit) {
            this.trees = trees;
            this.unit = unit;
        }

        private long line(Tree t) {
            return unit.getLineMap().getLineNumber(trees.getSourcePositions().getStartPosition(unit, t));
        }

        private long lastLine(Tree t) {
            return unit.getLineMap().getLineNumber(trees.getSourcePositions().getEndPosition(unit, t));
        }

        private void none(String rule, Tree t) {
            need(false, rule + " (line " + line(t) + ")");
        }

        @Override public Void visitClass(ClassTree t, Void v) {
            classes++;
            TypeElement e = (TypeElement) trees.getElement(getCurrentPath());
            boolean outer = e.getSimpleName().contentEquals("FlakeArms");
            need(outer || e.getModifiers().contains(Modifier.STATIC), "1: static classes inside: " + e);
            need(outer || !e.getModifiers().contains(Modifier.PUBLIC), "1: no other public class: " + e);
            int fields = 0;
            for (Element m : e.getEnclosedElements()) {
                boolean isStatic = m.getModifiers().contains(Modifier.STATIC);
                if (m.getKind() == ElementKind.FIELD) {
                    fields += isStatic ? 0 : 1;
                    need(!isStatic || m.getModifiers().contains(Modifier.FINAL), "5: static fields are final: " + m);
                }
                boolean isMethod = m.getKind() == ElementKind.METHOD;
                if (outer && !m.getKind().isClass()) {
                    boolean isPublic = m.getModifiers().contains(Modifier.PUBLIC);
                    need(isPublic || m.getModifiers().contains(Modifier.PRIVATE), "1: neither public nor private: " + m);
                    if (isPublic && isMethod) {
                        face.add(m.getSimpleName().toString());
                    }
                }
                if (isMethod && !m.getModifiers().contains(Modifier.PUBLIC)) {
                    need(!Set.of(FACE).contains(m.getSimpleName().toString()), "1: the name of a public one: " + m);
                }
                need(!Set.of("equals", "hashCode", "toString").contains(m.getSimpleName().toString()), "6: " + m);
            }
            need(fields <= 20, "11: " + fields + " fields in " + e);
            return super.visitClass(t, v);
        }

        @Override public Void visitMethod(MethodTree t, Void v) {
            ExecutableElement before = in;
            in = (ExecutableElement) trees.getElement(getCurrentPath());
            methods.putIfAbsent(in, new HashSet<>());
            need(t.getParameters().size() <= 7, "11: parameters of " + in);
            need(lastLine(t) - line(t) < 60, "11: lines of " + in);
            super.visitMethod(t, v);
            in = before;
            return null;
        }

        @Override public Void visitMethodInvocation(MethodInvocationTree t, Void v) {
            called(t);
            return super.visitMethodInvocation(t, v);
        }

        @Override public Void visitNewClass(NewClassTree t, Void v) {
            need(t.getClassBody() == null, "2: an anonymous class");
            called(t);
            return super.visitNewClass(t, v);
        }

        private void called(Tree t) {
            ExecutableElement e = (ExecutableElement) trees.getElement(trees.getPath(unit, t));
            boolean isOwn = e.getEnclosingElement().toString().startsWith("FlakeArms");
            boolean isConstructor = e.getKind() == ElementKind.CONSTRUCTOR;
            need(isOwn || isConstructor || LIBRARY.contains(e.getSimpleName().toString()), "4: " + e);
            if (in != null && isOwn) {
                methods.get(in).add(e);
            }
        }

        @Override public Void visitVariable(VariableTree t, Void v) {
            Element e = trees.getElement(getCurrentPath());
            if (e instanceof VariableElement && e.getKind() == ElementKind.FIELD
                    && e.getModifiers().contains(Modifier.STATIC)) {
                String type = e.asType().toString();
                need(Set.of("int", "long", "boolean", "char", "java.lang.String", "int[]", "long[]", "char[]", "byte[]")
                    .contains(type), "5: a static field of " + type);
            }
            String type = e == null ? "" : e.asType().toString();
            need(!type.startsWith("double") && !type.startsWith("float") && !type.startsWith("java.util"),
                "3: " + type);
            return super.visitVariable(t, v);
        }

        @Override public Void visitLiteral(LiteralTree t, Void v) {
            if (t.getValue() instanceof String s) {
                need(s.chars().allMatch(ch -> ch >= 1 && ch <= 127), "4: a constant's signs");
            }
            return super.visitLiteral(t, v);
        }

        @Override public Void visitThrow(ThrowTree t, Void v) { none("6: throw", t); return null; }
        @Override public Void visitTry(TryTree t, Void v) { none("6: try", t); return null; }
        @Override public Void visitCatch(CatchTree t, Void v) { none("6: catch", t); return null; }
        @Override public Void visitAssert(AssertTree t, Void v) { none("6: assert", t); return null; }
        @Override public Void visitSynchronized(SynchronizedTree t, Void v) { none("6: synchronized", t); return null; }
        @Override public Void visitLambdaExpression(LambdaExpressionTree t, Void v) { none("2: lambda", t); return null; }
        @Override public Void visitMemberReference(MemberReferenceTree t, Void v) { none("2: reference", t); return null; }
        @Override public Void visitImport(ImportTree t, Void v) { none("4: import", t); return null; }

        void end() {
            need(unit.getPackageName() == null, "a package line");
            need(classes <= 12, "11: " + classes + " classes");
            need(face.equals(new TreeSet<>(Set.of(FACE))), "1: the face is " + face);
            Map<ExecutableElement, Integer> depths = new HashMap<>();
            for (ExecutableElement m : methods.keySet()) {
                int deep = depth(m, depths, new ArrayList<>());
                deepest = Math.max(deepest, deep);
                // Broken.tells() as if it went on to Armed.takes(), which no GROWTH does.
                int most = m.getSimpleName().contentEquals("act") ? 9 : 8;
                need(deep <= most, "11: calls go " + deep + " deep from " + m);
            }
        }

        /**
         * How deep the calls from a method may go: one into a method that stands open is counted no
         * further, one of a method that others stand for as of each of them.
         */
        private int depth(ExecutableElement m, Map<ExecutableElement, Integer> known, List<ExecutableElement> open) {
            if (known.containsKey(m)) {
                return known.get(m);
            }
            if (open.contains(m)) {
                return 0;
            }
            open.add(m);
            int deep = 0;
            for (ExecutableElement called : methods.getOrDefault(m, Set.of())) {
                deep = Math.max(deep, depth(called, known, open));
                boolean isSuper = called.getSimpleName().equals(m.getSimpleName());
                for (ExecutableElement other : methods.keySet()) {
                    if (!isSuper && overrides(other, called)) {
                        deep = Math.max(deep, depth(other, known, open));
                    }
                }
            }
            open.remove(m);
            known.put(m, deep + 1);
            return deep + 1;
        }

        private boolean overrides(ExecutableElement a, ExecutableElement b) {
            if (a == b || !a.getSimpleName().equals(b.getSimpleName()) || a.getKind() != ElementKind.METHOD
                    || !a.getParameters().toString().equals(b.getParameters().toString())) {
                return false;
            }
            TypeElement type = (TypeElement) a.getEnclosingElement();
            while (type != null && !type.equals(b.getEnclosingElement())) {
                Element over = type.getSuperclass() instanceof javax.lang.model.type.DeclaredType d ? d.asElement() : null;
                type = (TypeElement) over;
            }
            return type != null;
        }
    }
}
