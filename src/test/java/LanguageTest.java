import com.sun.source.tree.BinaryTree;
import com.sun.source.tree.ClassTree;
import com.sun.source.tree.CompilationUnitTree;
import com.sun.source.tree.CompoundAssignmentTree;
import com.sun.source.tree.DoWhileLoopTree;
import com.sun.source.tree.ForLoopTree;
import com.sun.source.tree.ImportTree;
import com.sun.source.tree.LiteralTree;
import com.sun.source.tree.MemberSelectTree;
import com.sun.source.tree.MethodInvocationTree;
import com.sun.source.tree.MethodTree;
import com.sun.source.tree.NewClassTree;
import com.sun.source.tree.Tree;
import com.sun.source.tree.TypeCastTree;
import com.sun.source.tree.VariableTree;
import com.sun.source.tree.WhileLoopTree;
import com.sun.source.util.JavacTask;
import com.sun.source.util.SourcePositions;
import com.sun.source.util.TreePathScanner;
import com.sun.source.util.Trees;
import java.io.IOException;
import java.nio.file.Files;
import java.nio.file.Path;
import java.util.ArrayList;
import java.util.HashMap;
import java.util.HashSet;
import java.util.LinkedHashSet;
import java.util.List;
import java.util.Map;
import java.util.Set;
import javax.lang.model.element.Element;
import javax.lang.model.element.ElementKind;
import javax.lang.model.element.ExecutableElement;
import javax.lang.model.element.Modifier;
import javax.lang.model.element.TypeElement;
import javax.lang.model.element.VariableElement;
import javax.lang.model.type.ArrayType;
import javax.lang.model.type.TypeKind;
import javax.lang.model.type.TypeMirror;
import javax.tools.JavaCompiler;
import javax.tools.StandardJavaFileManager;
import javax.tools.ToolProvider;

/**
 * The rules of LANGUAGE.md, by number, as far as they can be seen from the program's text: it is read by the compiler,
 * and every tree of it is looked at. It is stricter than rule 8: no method calls itself, by whatever way.
 */
public final class LanguageTest {
    private static final Due due = new Due("LanguageTest");
    private static final Path FILE = Path.of("src/main/java/TwoBells.java");
    private static final int MOST_LINES = 60, MOST_PARAMETERS = 7, MOST_DEEP = 8, MOST_CLASSES = 12, MOST_FIELDS = 20;

    private static final Set<Tree.Kind> RULED_OUT = Set.of(Tree.Kind.THROW, Tree.Kind.TRY, Tree.Kind.CATCH, Tree.Kind.SYNCHRONIZED,
        Tree.Kind.ASSERT, Tree.Kind.LAMBDA_EXPRESSION, Tree.Kind.MEMBER_REFERENCE, Tree.Kind.ANNOTATION, Tree.Kind.PACKAGE);
    private static final Set<String> TYPES = Set.of("java.lang.String", "java.lang.StringBuilder", "java.lang.Integer",
        "java.util.ArrayList", "java.util.List");
    private static final Set<String> CALLS = Set.of("String.length", "String.charAt", "String.isEmpty", "String.equals", "String.indexOf",
        "String.substring", "String.toCharArray", "StringBuilder.append", "StringBuilder.charAt", "StringBuilder.setCharAt",
        "StringBuilder.setLength", "StringBuilder.deleteCharAt", "StringBuilder.reverse", "StringBuilder.length", "StringBuilder.toString",
        "ArrayList.add", "ArrayList.get", "ArrayList.set", "ArrayList.remove", "ArrayList.size", "ArrayList.isEmpty", "ArrayList.clear",
        "List.add", "List.get", "List.set", "List.remove", "List.size", "List.isEmpty", "List.clear", "List.of",
        "System.arraycopy", "Arrays.copyOf", "Arrays.copyOfRange", "Arrays.fill", "Object.clone", "Object.<init>");

    public static void main(String[] args) throws IOException {
        JavaCompiler compiler = ToolProvider.getSystemJavaCompiler();
        StandardJavaFileManager files = compiler.getStandardFileManager(null, null, null);
        JavacTask task = (JavacTask) compiler.getTask(null, files, null, List.of("-proc:none"), null, files.getJavaFileObjects(FILE));
        CompilationUnitTree unit = task.parse().iterator().next();
        task.analyze();
        Looks looks = new Looks(Trees.instance(task));
        looks.scan(unit, null);
        looks.end();
        plainSigns(Files.readString(FILE));
        due.end();
    }

    private static void plainSigns(String text) {
        boolean plain = true;
        for (int i = 0; i < text.length(); i++) {
            plain &= text.charAt(i) < 127;
        }
        due.holds("rule 4: signs 1 to 126 alone", plain);
    }

    /** A walk through all trees of the file. */
    private static final class Looks extends TreePathScanner<Void, Void> {
        private final Trees trees;
        private final SourcePositions places;
        private CompilationUnitTree unit;
        private ExecutableElement inside;
        private final List<TypeElement> classes = new ArrayList<>();
        // Whom a method calls; of a method that others override, those too.
        private final Map<ExecutableElement, Set<ExecutableElement>> calls = new HashMap<>();
        private final Map<ExecutableElement, Set<ExecutableElement>> exactCalls = new HashMap<>();

        Looks(Trees trees) {
            this.trees = trees;
            this.places = trees.getSourcePositions();
        }

        private String where(Tree tree) {
            return "line " + unit.getLineMap().getLineNumber(places.getStartPosition(unit, tree)) + ": "
                + tree.toString().trim().lines().findFirst().orElse("");
        }

        private void holds(int rule, String what, Tree tree, boolean so) {
            due.holds("rule " + rule + ": " + what + ", " + where(tree), so);
        }

        private TypeMirror typeOf(Tree tree) {
            return trees.getTypeMirror(new com.sun.source.util.TreePath(getCurrentPath(), tree));
        }

        private static boolean isText(TypeMirror type) {
            return type != null && type.toString().equals("java.lang.String");
        }

        private boolean isOwn(Element e) {
            while (e != null && e.getKind() != ElementKind.PACKAGE) {
                if (e.getSimpleName().contentEquals("TwoBells")) {
                    return true;
                }
                e = e.getEnclosingElement();
            }
            return false;
        }

        private boolean isAllowed(TypeMirror type) {
            if (type instanceof ArrayType row) {
                TypeMirror part = row.getComponentType();
                // Two dimensions are for numbers alone.
                return part instanceof ArrayType inner ? inner.getComponentType().getKind().isPrimitive() : isAllowed(part);
            }
            if (type.getKind().isPrimitive() || type.getKind() == TypeKind.VOID) {
                return true;
            }
            String name = type.toString().replaceAll("<.*", "");
            return TYPES.contains(name) || name.equals("TwoBells") || name.startsWith("TwoBells.");
        }

        @Override
        public Void scan(Tree tree, Void nothing) {
            if (tree != null && RULED_OUT.contains(tree.getKind())) {
                holds(6, "no " + tree.getKind(), tree, false);
            }
            return super.scan(tree, nothing);
        }

        @Override
        public Void visitCompilationUnit(CompilationUnitTree tree, Void nothing) {
            unit = tree;
            due.is("rule 1: one class in the file", 1, tree.getTypeDecls().size());
            return super.visitCompilationUnit(tree, nothing);
        }

        @Override
        public Void visitImport(ImportTree tree, Void nothing) {
            String name = tree.getQualifiedIdentifier().toString();
            holds(4, "an import that is allowed", tree,
                !tree.isStatic() && Set.of("java.util.Arrays", "java.util.ArrayList", "java.util.List", "java.util.Iterator").contains(name));
            return null;
        }

        @Override
        public Void visitClass(ClassTree tree, Void nothing) {
            TypeElement type = (TypeElement) trees.getElement(getCurrentPath());
            classes.add(type);
            boolean top = type.getEnclosingElement().getKind() == ElementKind.PACKAGE;
            boolean member = type.getEnclosingElement().getKind().isClass();
            holds(2, "no local or anonymous class, and static if inside", tree,
                top || member && type.getModifiers().contains(Modifier.STATIC));
            int fields = 0;
            for (Tree part : tree.getMembers()) {
                holds(5, "no initialiser block", part, part.getKind() != Tree.Kind.BLOCK);
                if (part instanceof VariableTree field && !field.getModifiers().getFlags().contains(Modifier.STATIC)) {
                    fields++;
                }
            }
            holds(11, "at most twenty fields, has " + fields, tree, fields <= MOST_FIELDS);
            return super.visitClass(tree, nothing);
        }

        @Override
        public Void visitMethod(MethodTree tree, Void nothing) {
            ExecutableElement before = inside;
            inside = (ExecutableElement) trees.getElement(getCurrentPath());
            calls.computeIfAbsent(inside, m -> new LinkedHashSet<>());
            exactCalls.computeIfAbsent(inside, m -> new LinkedHashSet<>());
            long from = unit.getLineMap().getLineNumber(Math.max(0, places.getStartPosition(unit, tree)));
            long to = unit.getLineMap().getLineNumber(Math.max(0, places.getEndPosition(unit, tree)));
            holds(11, "a short method", tree, to - from < MOST_LINES);
            holds(11, "at most seven parameters", tree, tree.getParameters().size() <= MOST_PARAMETERS);
            holds(6, "no throws", tree, tree.getThrows().isEmpty());
            holds(6, "no equals, hashCode, toString of its own", tree, !Set.of("equals", "hashCode", "toString").contains(tree.getName().toString()));
            holds(3, "an answer of a type that is allowed", tree, isAllowed(inside.getReturnType()));
            super.visitMethod(tree, nothing);
            inside = before;
            return null;
        }

        @Override
        public Void visitVariable(VariableTree tree, Void nothing) {
            VariableElement variable = (VariableElement) trees.getElement(getCurrentPath());
            holds(3, "a type that is allowed", tree, isAllowed(variable.asType()));
            if (variable.getKind() == ElementKind.FIELD && variable.getModifiers().contains(Modifier.STATIC)) {
                boolean constant = variable.getConstantValue() != null
                    || variable.asType() instanceof ArrayType row && row.getComponentType().getKind().isPrimitive();
                holds(5, "static and final, a constant or a row of numbers", tree, variable.getModifiers().contains(Modifier.FINAL) && constant);
            }
            return super.visitVariable(tree, nothing);
        }

        @Override
        public Void visitMethodInvocation(MethodInvocationTree tree, Void nothing) {
            ExecutableElement called = (ExecutableElement) trees.getElement(getCurrentPath());
            if (isOwn(called)) {
                boolean bySuper = tree.getMethodSelect().toString().startsWith("super");
                Map<ExecutableElement, Set<ExecutableElement>> into = bySuper ? exactCalls : calls;
                into.computeIfAbsent(inside, m -> new LinkedHashSet<>()).add(called);
            } else {
                String name = called.getEnclosingElement().getSimpleName() + "." + called.getSimpleName();
                holds(4, "the library's " + name + " is allowed", tree, CALLS.contains(name) || isOverNumbers(called, name));
                boolean clone = name.equals("Object.clone");
                holds(4, "clone is of an array", tree, !clone || tree.getMethodSelect() instanceof MemberSelectTree of
                    && typeOf(of.getExpression()).getKind() == TypeKind.ARRAY);
            }
            return super.visitMethodInvocation(tree, nothing);
        }

        private static boolean isOverNumbers(ExecutableElement called, String name) {
            boolean so = name.matches("(Math|Integer|Long)\\.\\w+") && called.getModifiers().contains(Modifier.STATIC) && !name.endsWith("Exact");
            for (VariableElement parameter : called.getParameters()) {
                so &= Set.of(TypeKind.INT, TypeKind.LONG).contains(parameter.asType().getKind());
            }
            return so;
        }

        @Override
        public Void visitNewClass(NewClassTree tree, Void nothing) {
            TypeMirror made = typeOf(tree);
            holds(3, "makes what is allowed", tree, tree.getClassBody() == null && isAllowed(made) && !made.toString().equals("java.lang.Integer"));
            ExecutableElement maker = (ExecutableElement) trees.getElement(getCurrentPath());
            if (isOwn(maker) && inside != null) {
                exactCalls.computeIfAbsent(inside, m -> new LinkedHashSet<>()).add(maker);
            }
            return super.visitNewClass(tree, nothing);
        }

        @Override
        public Void visitBinary(BinaryTree tree, Void nothing) {
            TypeMirror left = typeOf(tree.getLeftOperand());
            TypeMirror right = typeOf(tree.getRightOperand());
            holds(10, "texts are not joined by +", tree, tree.getKind() != Tree.Kind.PLUS || !isText(left) && !isText(right));
            boolean compares = tree.getKind() == Tree.Kind.EQUAL_TO || tree.getKind() == Tree.Kind.NOT_EQUAL_TO;
            holds(6, "no == of two texts", tree, !compares || !isText(left) || !isText(right));
            return super.visitBinary(tree, nothing);
        }

        @Override
        public Void visitCompoundAssignment(CompoundAssignmentTree tree, Void nothing) {
            holds(10, "texts are not joined by +=", tree, !isText(typeOf(tree.getVariable())));
            return super.visitCompoundAssignment(tree, nothing);
        }

        @Override
        public Void visitTypeCast(TypeCastTree tree, Void nothing) {
            // A cast of objects would need the test that makes it safe, which cannot be seen from the cast alone.
            holds(7, "casts are of numbers", tree, typeOf(tree.getType()).getKind().isPrimitive());
            return super.visitTypeCast(tree, nothing);
        }

        @Override
        public Void visitForLoop(ForLoopTree tree, Void nothing) {
            holds(9, "a loop with a bound", tree, tree.getCondition() != null && !isTrue(tree.getCondition()));
            return super.visitForLoop(tree, nothing);
        }

        @Override
        public Void visitWhileLoop(WhileLoopTree tree, Void nothing) {
            holds(9, "a loop with a bound", tree, !isTrue(tree.getCondition()));
            return super.visitWhileLoop(tree, nothing);
        }

        @Override
        public Void visitDoWhileLoop(DoWhileLoopTree tree, Void nothing) {
            holds(9, "a loop with a bound", tree, !isTrue(tree.getCondition()));
            return super.visitDoWhileLoop(tree, nothing);
        }

        private static boolean isTrue(Tree condition) {
            return condition.toString().matches("\\(*true\\)*");
        }

        @Override
        public Void visitLiteral(LiteralTree tree, Void nothing) {
            if (tree.getValue() instanceof String text) {
                holds(4, "a text of signs 1 to 127", tree, text.chars().allMatch(c -> c > 0 && c < 128));
            }
            return super.visitLiteral(tree, nothing);
        }

        void end() {
            due.holds("rule 11: at most twelve classes, has " + classes.size(), classes.size() <= MOST_CLASSES);
            int deepest = 0;
            for (ExecutableElement method : calls.keySet()) {
                deepest = Math.max(deepest, depth(method, new HashSet<>()));
            }
            due.holds("rule 11: calls go at most eight deep, go " + deepest, deepest <= MOST_DEEP);
        }

        /** How many calls stand open at once, at most, from a method on. */
        private int depth(ExecutableElement method, Set<ExecutableElement> open) {
            if (!open.add(method)) {
                due.holds("rule 8: " + method + " calls itself, by " + open, false);
                return 1;
            }
            int deepest = 0;
            for (ExecutableElement next : nextOf(method)) {
                deepest = Math.max(deepest, depth(next, open));
            }
            open.remove(method);
            return 1 + deepest;
        }

        private Set<ExecutableElement> nextOf(ExecutableElement method) {
            Set<ExecutableElement> next = new LinkedHashSet<>(exactCalls.getOrDefault(method, Set.of()));
            for (ExecutableElement called : calls.getOrDefault(method, Set.of())) {
                next.add(called);
                next.addAll(overriders(called));
            }
            return next;
        }

        /** Methods of that name, and of as many parameters, in classes under its own. */
        private List<ExecutableElement> overriders(ExecutableElement called) {
            List<ExecutableElement> all = new ArrayList<>();
            for (TypeElement type : classes) {
                for (Element part : type.getEnclosedElements()) {
                    if (part instanceof ExecutableElement other && other.getSimpleName().equals(called.getSimpleName())
                        && other.getParameters().size() == called.getParameters().size()
                        && isUnder(type, (TypeElement) called.getEnclosingElement())) {
                        all.add(other);
                    }
                }
            }
            return all;
        }

        private static boolean isUnder(TypeElement type, TypeElement above) {
            String name = type.getSuperclass().toString();
            for (int i = 0; i < MOST_CLASSES && name.startsWith("TwoBells."); i++) {
                if (name.equals(above.toString())) {
                    return true;
                }
                type = (TypeElement) ((javax.lang.model.type.DeclaredType) type.getSuperclass()).asElement();
                name = type.getSuperclass().toString();
            }
            return false;
        }
    }
}
