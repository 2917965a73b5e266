import com.sun.source.tree.*;
import com.sun.source.util.JavacTask;
import com.sun.source.util.SourcePositions;
import com.sun.source.util.TreePath;
import com.sun.source.util.TreePathScanner;
import com.sun.source.util.TreeScanner;
import com.sun.source.util.Trees;
import java.io.IOException;
import java.lang.reflect.Constructor;
import java.lang.reflect.Field;
import java.lang.reflect.Method;
import java.lang.reflect.Modifier;
import java.nio.file.Files;
import java.nio.file.Path;
import java.util.HashMap;
import java.util.HashSet;
import java.util.List;
import java.util.Map;
import java.util.Set;
import java.util.TreeMap;
import java.util.TreeSet;
import javax.lang.model.element.Element;
import javax.lang.model.element.ElementKind;
import javax.lang.model.type.TypeMirror;
import javax.tools.JavaCompiler;
import javax.tools.StandardJavaFileManager;
import javax.tools.ToolProvider;

/**
 * The rules of LANGUAGE.md, read from the source as the compiler reads it. Where they allow more than the class needs
 * (interfaces, lists, objects that a call makes), it is held to what it needs. Run from the project's folder.
 */
public final class RulesTest extends Checks {
    private static final Path SOURCE = Path.of("src/main/java/FareDrops.java");
    private static final String FACE = "carryOut cheapest count drive end extra farthest fault halt hire hour log ofTariff"
        + " price priceOfExtra put rest restore ride save tariff undo wipe would";
    /** What the class uses of what rule 4 lists. */
    private static final Set<String> LIBRARY = Set.of("Math.max", "Math.min", "System.arraycopy", "String.indexOf");
    private static final Set<String> TYPES = Set.of("int", "long", "char", "boolean", "int[]", "char[]", "void");

    private static String source;
    private static Trees trees;

    public static void main(String[] args) throws IOException {
        source = Files.readString(SOURCE);
        signs();
        face();
        reading();
        close();
    }

    private static void holds(String rule, boolean held) {
        due(rule, held ? 1 : 0, 1);
    }

    private static void signs() {
        part("one file, of plain signs");
        holds("no sign but 1 to 127", source.chars().allMatch(sign -> sign == '\n' || sign >= 32 && sign <= 126));
    }

    private static void face() {
        part("rule 1: the face");
        Set<String> methods = new TreeSet<>();
        Set<String> others = new TreeSet<>();
        for (Method method : FareDrops.class.getDeclaredMethods()) {
            (Modifier.isPublic(method.getModifiers()) ? methods : others).add(method.getName());
            holds(method + " is public or private", (method.getModifiers() & (Modifier.PUBLIC | Modifier.PRIVATE)) != 0);
            holds(method + " is of its object or private", !Modifier.isStatic(method.getModifiers())
                || Modifier.isPrivate(method.getModifiers()));
        }
        holds("the face's methods: " + methods, String.join(" ", methods).equals(FACE));
        for (Class<?> inside : FareDrops.class.getDeclaredClasses()) {
            holds(inside + " is static", Modifier.isStatic(inside.getModifiers()));
            holds(inside + " is not public", !Modifier.isPublic(inside.getModifiers()));
            for (Method method : inside.getDeclaredMethods()) {
                others.add(method.getName());
            }
        }
        others.retainAll(methods);
        holds("no other method bears a public one's name: " + others, others.isEmpty());
        int constants = 0;
        for (Field field : FareDrops.class.getDeclaredFields()) {
            boolean isPublic = Modifier.isPublic(field.getModifiers());
            constants += isPublic ? 1 : 0;
            holds(field + " is public or private", isPublic || Modifier.isPrivate(field.getModifiers()));
            holds(field + " is final", Modifier.isFinal(field.getModifiers()));
        }
        holds("six constants", constants == 6);
        Constructor<?>[] constructors = FareDrops.class.getDeclaredConstructors();
        holds("one public constructor", constructors.length == 1 && Modifier.isPublic(constructors[0].getModifiers()));
        holds("the class is final", Modifier.isFinal(FareDrops.class.getModifiers()));
    }

    private static void reading() throws IOException {
        JavaCompiler compiler = ToolProvider.getSystemJavaCompiler();
        try (StandardJavaFileManager files = compiler.getStandardFileManager(null, null, null)) {
            JavacTask task = (JavacTask) compiler.getTask(null, files, null, List.of("-proc:none"), null,
                files.getJavaFileObjects(SOURCE));
            CompilationUnitTree unit = task.parse().iterator().next();
            task.analyze();
            trees = Trees.instance(task);
            Reader reader = new Reader(unit);
            reader.scan(unit, null);
            reader.tellSizes();
        }
    }

    /** Looks at each part of the source, and keeps who calls whom. */
    private static final class Reader extends TreePathScanner<Void, Void> {
        private final CompilationUnitTree unit;
        private final SourcePositions positions = trees.getSourcePositions();
        private final Map<Element, Set<Element>> calls = new HashMap<>();
        private final Map<String, Integer> fields = new TreeMap<>();
        private final Set<String> library = new TreeSet<>();
        private int classes;
        private Element method;
        private String text = "";
        private boolean makes = true;

        Reader(CompilationUnitTree unit) {
            this.unit = unit;
            part("one file without a package, no import");
            holds("no package", unit.getPackageName() == null);
            holds("no import", unit.getImports().isEmpty());
            holds("one class outside", unit.getTypeDecls().size() == 1);
        }

        private String where(Tree tree) {
            long line = unit.getLineMap().getLineNumber(positions.getStartPosition(unit, tree));
            return "line " + line + ": " + tree.toString().lines().findFirst().orElse("");
        }

        /** A constructor that the compiler adds has no place in the source. */
        private String textOf(Tree tree) {
            int end = (int) positions.getEndPosition(unit, tree);
            return end < 0 ? "" : source.substring((int) positions.getStartPosition(unit, tree), end);
        }

        private TypeMirror typeOf(Tree tree) {
            return trees.getTypeMirror(new TreePath(getCurrentPath(), tree));
        }

        private void never(String rule, Tree tree) {
            part(rule);
            holds(where(tree), false);
        }

        @Override
        public Void visitClass(ClassTree tree, Void none) {
            classes++;
            part("rules 1 and 2: classes");
            Tree parent = getCurrentPath().getParentPath().getLeaf();
            holds("no local class, " + where(tree), parent instanceof ClassTree || parent instanceof CompilationUnitTree);
            boolean isAlone = tree.getExtendsClause() == null && tree.getImplementsClause().isEmpty();
            boolean isPlain = tree.getKind() == Tree.Kind.CLASS && tree.getTypeParameters().isEmpty();
            holds("a plain class, " + tree.getSimpleName(), isAlone && isPlain);
            int own = 0;
            for (Tree member : tree.getMembers()) {
                holds("no block in a class, " + tree.getSimpleName(), !(member instanceof BlockTree));
                if (member instanceof VariableTree field && !isMarked(field, "static")) {
                    own++;
                }
            }
            fields.put(tree.getSimpleName().toString(), own);
            return super.visitClass(tree, none);
        }

        private boolean isMarked(VariableTree field, String modifier) {
            return field.getModifiers().getFlags().stream().anyMatch(flag -> flag.toString().equals(modifier));
        }

        @Override
        public Void visitVariable(VariableTree tree, Void none) {
            part("rules 3 and 5: types, and what is static");
            String type = String.valueOf(tree.getType());
            boolean isOwn = trees.getElement(new TreePath(getCurrentPath(), tree.getType())) != null
                && typeOf(tree.getType()).toString().startsWith("FareDrops.");
            holds("its type, " + where(tree), TYPES.contains(type) || isOwn || type.equals("Meter[]"));
            if (isMarked(tree, "static")) {
                holds("final, " + where(tree), isMarked(tree, "final"));
                holds("a constant, " + where(tree), tree.getType().toString().equals("int"));
            }
            return super.visitVariable(tree, none);
        }

        @Override
        public Void visitMethod(MethodTree tree, Void none) {
            part("rule 11: methods");
            holds("at most seven parameters, " + tree.getName(), tree.getParameters().size() <= 7);
            holds("at most sixty lines, " + tree.getName(), textOf(tree).lines().count() <= 60);
            holds("throws nothing, " + tree.getName(), tree.getThrows().isEmpty());
            method = trees.getElement(getCurrentPath());
            makes = method.getKind() == ElementKind.CONSTRUCTOR;
            text = textOf(tree);
            calls.put(method, new HashSet<>());
            super.visitMethod(tree, none);
            method = null;
            makes = true;
            text = "";
            return null;
        }

        @Override
        public Void visitMethodInvocation(MethodInvocationTree tree, Void none) {
            part("rule 4: the library");
            Element called = trees.getElement(new TreePath(getCurrentPath(), tree.getMethodSelect()));
            String owner = called.getEnclosingElement().toString();
            if (owner.startsWith("FareDrops")) {
                holds("called by a method, " + where(tree), method != null);
                calls.getOrDefault(method, new HashSet<>()).add(called);
            } else if (called.getKind() != ElementKind.CONSTRUCTOR) {
                String name = called.getEnclosingElement().getSimpleName() + "." + called.getSimpleName();
                holds("listed: " + name, LIBRARY.contains(name));
                library.add(name);
            }
            return super.visitMethodInvocation(tree, none);
        }

        @Override
        public Void visitNewClass(NewClassTree tree, Void none) {
            part("rules 2 and 12: what is made");
            holds("no anonymous class, " + where(tree), tree.getClassBody() == null);
            holds("made in a constructor alone, " + where(tree), makes);
            holds("of the program's own, " + where(tree), typeOf(tree).toString().startsWith("FareDrops."));
            return super.visitNewClass(tree, none);
        }

        @Override
        public Void visitNewArray(NewArrayTree tree, Void none) {
            part("rules 3 and 12: rows");
            holds("made in a constructor alone, " + where(tree), makes);
            holds("of one dimension, " + where(tree), tree.getDimensions().size() <= 1);
            return super.visitNewArray(tree, none);
        }

        @Override
        public Void visitArrayAccess(ArrayAccessTree tree, Void none) {
            part("rule 7: an index is looked at before it is used");
            String row = tree.getExpression().toString();
            holds("within " + row + ".length, " + where(tree), text.contains(tree.getIndex() + " < " + row + ".length"));
            boolean isCounter = text.contains("int " + tree.getIndex() + " = 0;");
            holds("0 or more, " + where(tree), isCounter || text.contains(tree.getIndex() + " >= 0"));
            return super.visitArrayAccess(tree, none);
        }

        @Override
        public Void visitBinary(BinaryTree tree, Void none) {
            ExpressionTree right = tree.getRightOperand();
            if (tree.getKind() == Tree.Kind.DIVIDE || tree.getKind() == Tree.Kind.REMAINDER) {
                divisor(tree, right);
            }
            part("rules 6 and 10: texts");
            for (ExpressionTree side : List.of(tree.getLeftOperand(), right)) {
                TypeMirror type = typeOf(side);
                boolean isNull = side.getKind() == Tree.Kind.NULL_LITERAL || type.toString().startsWith("FareDrops.");
                holds("only numbers, null and own objects, " + where(tree), type.getKind().isPrimitive() || isNull);
            }
            return super.visitBinary(tree, none);
        }

        @Override
        public Void visitCompoundAssignment(CompoundAssignmentTree tree, Void none) {
            if (tree.getKind() == Tree.Kind.DIVIDE_ASSIGNMENT || tree.getKind() == Tree.Kind.REMAINDER_ASSIGNMENT) {
                divisor(tree, tree.getExpression());
            }
            part("rules 6 and 10: texts");
            holds("only numbers, " + where(tree), typeOf(tree.getVariable()).getKind().isPrimitive());
            return super.visitCompoundAssignment(tree, none);
        }

        private void divisor(Tree tree, ExpressionTree divisor) {
            part("rule 7: a divisor is looked at before it divides");
            String name = divisor.toString();
            boolean isConstant = name.matches("\\(?[A-Z_]+( \\+ 1\\)?)?");
            boolean isTested = text.contains(name + " > 0") || text.contains(name + " <= 0");
            holds("above 0, " + where(tree), isConstant || isTested);
        }

        @Override
        public Void visitMemberSelect(MemberSelectTree tree, Void none) {
            part("rule 7: a reference is tested against null");
            Element from = trees.getElement(new TreePath(getCurrentPath(), tree.getExpression()));
            boolean isLocal = from != null && from.getKind() == ElementKind.LOCAL_VARIABLE;
            // Fields and parameters of the class are never null; what a function fetched from a row may be.
            if (isLocal && typeOf(tree.getExpression()).toString().equals("FareDrops.Meter")) {
                holds("tested, " + where(tree), text.contains(tree.getExpression() + " != null"));
            }
            return super.visitMemberSelect(tree, none);
        }

        @Override
        public Void visitForLoop(ForLoopTree tree, Void none) {
            loop(tree, tree.getCondition());
            return super.visitForLoop(tree, none);
        }

        @Override
        public Void visitWhileLoop(WhileLoopTree tree, Void none) {
            loop(tree, tree.getCondition());
            return super.visitWhileLoop(tree, none);
        }

        @Override
        public Void visitDoWhileLoop(DoWhileLoopTree tree, Void none) {
            loop(tree, tree.getCondition());
            return super.visitDoWhileLoop(tree, none);
        }

        /** A loop has to compare a counter that it changes itself by one. */
        private void loop(Tree tree, ExpressionTree condition) {
            part("rule 9: every loop has an end");
            Set<String> counted = new HashSet<>();
            new TreeScanner<Void, Void>() {
                @Override
                public Void visitUnary(UnaryTree step, Void none) {
                    counted.add(step.getExpression().toString());
                    return super.visitUnary(step, none);
                }
            }.scan(tree, null);
            boolean[] ends = {false};
            new TreeScanner<Void, Void>() {
                @Override
                public Void visitBinary(BinaryTree comparison, Void none) {
                    boolean compares = Set.of("<", "<=", ">", ">=").contains(comparison.toString().split(" ")[1]);
                    ends[0] |= compares && counted.contains(comparison.getLeftOperand().toString());
                    return super.visitBinary(comparison, none);
                }
            }.scan(condition, null);
            holds("a counter against a bound, " + where(tree), ends[0]);
        }

        @Override
        public Void visitTypeCast(TypeCastTree tree, Void none) {
            part("rules 6 and 7: casts");
            holds("only of numbers, " + where(tree), typeOf(tree.getType()).getKind().isPrimitive());
            return super.visitTypeCast(tree, none);
        }

        @Override
        public Void visitLambdaExpression(LambdaExpressionTree tree, Void none) {
            never("rule 2: no lambda", tree);
            return super.visitLambdaExpression(tree, none);
        }

        @Override
        public Void visitMemberReference(MemberReferenceTree tree, Void none) {
            never("rule 2: no method reference", tree);
            return super.visitMemberReference(tree, none);
        }

        @Override
        public Void visitThrow(ThrowTree tree, Void none) {
            never("rule 6: no throw", tree);
            return super.visitThrow(tree, none);
        }

        @Override
        public Void visitTry(TryTree tree, Void none) {
            never("rule 6: no try", tree);
            return super.visitTry(tree, none);
        }

        @Override
        public Void visitSynchronized(SynchronizedTree tree, Void none) {
            never("rule 6: no synchronized", tree);
            return super.visitSynchronized(tree, none);
        }

        @Override
        public Void visitAssert(AssertTree tree, Void none) {
            never("rule 6: no assert", tree);
            return super.visitAssert(tree, none);
        }

        @Override
        public Void visitInstanceOf(InstanceOfTree tree, Void none) {
            never("rule 6: instanceof", tree);
            return super.visitInstanceOf(tree, none);
        }

        void tellSizes() {
            part("rule 11: sizes");
            holds("at most twelve classes", classes <= 12);
            fields.forEach((name, own) -> holds("at most twenty fields: " + name, own <= 20));
            holds("the library that is used: " + library, library.equals(new TreeSet<>(LIBRARY)));
            part("rules 8 and 11: calls that stand open at once");
            for (Element called : calls.keySet()) {
                holds("at most eight deep, with the library's: " + called, depth(called, new HashSet<>()) <= 8);
            }
        }

        /** How deep the calls of a method go; more than any bound if they come back to it. */
        private int depth(Element called, Set<Element> open) {
            if (!calls.containsKey(called)) {
                return 1;
            }
            if (!open.add(called)) {
                return 1000;
            }
            int deepest = 1;
            for (Element next : calls.get(called)) {
                deepest = Math.max(deepest, depth(next, open));
            }
            open.remove(called);
            return deepest + 1;
        }
    }
}
