import com.sun.source.tree.AssertTree;
import com.sun.source.tree.BinaryTree;
import com.sun.source.tree.ClassTree;
import com.sun.source.tree.CompilationUnitTree;
import com.sun.source.tree.DoWhileLoopTree;
import com.sun.source.tree.ExpressionTree;
import com.sun.source.tree.ForLoopTree;
import com.sun.source.tree.IdentifierTree;
import com.sun.source.tree.ImportTree;
import com.sun.source.tree.InstanceOfTree;
import com.sun.source.tree.LambdaExpressionTree;
import com.sun.source.tree.LiteralTree;
import com.sun.source.tree.MemberReferenceTree;
import com.sun.source.tree.MethodInvocationTree;
import com.sun.source.tree.MethodTree;
import com.sun.source.tree.NewArrayTree;
import com.sun.source.tree.NewClassTree;
import com.sun.source.tree.ParenthesizedTree;
import com.sun.source.tree.SwitchTree;
import com.sun.source.tree.SynchronizedTree;
import com.sun.source.tree.ThrowTree;
import com.sun.source.tree.Tree;
import com.sun.source.tree.TryTree;
import com.sun.source.tree.TypeCastTree;
import com.sun.source.tree.VariableTree;
import com.sun.source.tree.WhileLoopTree;
import com.sun.source.util.JavacTask;
import com.sun.source.util.TreePath;
import com.sun.source.util.TreePathScanner;
import com.sun.source.util.Trees;
import java.nio.file.Files;
import java.nio.file.Path;
import java.util.ArrayList;
import java.util.HashMap;
import java.util.HashSet;
import java.util.LinkedHashSet;
import java.util.List;
import java.util.Map;
import java.util.Set;
import javax.lang.model.element.Element;
import javax.lang.model.element.ElementKind;
import javax.lang.model.element.Modifier;
import javax.lang.model.type.TypeKind;
import javax.lang.model.type.TypeMirror;
import javax.tools.JavaCompiler;
import javax.tools.StandardJavaFileManager;
import javax.tools.ToolProvider;

/** The rules of LANGUAGE.md that the source tells. The class needs but a part of what they leave, so less is let through here. */
public final class SourceTest {
    private static final Check CHECK = new Check("SourceTest");
    private static final Path SOURCE = Path.of("src/main/java/WishedResistor.java");
    private static final Set<String> LIBRARY = Set.of("System.arraycopy", "Arrays.fill", "Math.min", "Math.max", "Math.abs", "Integer.bitCount");
    private static final int MOST_LINES = 60, MOST_PARAMETERS = 7, MOST_DEEP = 8, MOST_CLASSES = 12, MOST_FIELDS = 20;

    public static void main(String[] args) throws Exception {
        String text = Files.readString(SOURCE);
        signs(text);
        JavaCompiler compiler = ToolProvider.getSystemJavaCompiler();
        try (StandardJavaFileManager files = compiler.getStandardFileManager(null, null, null)) {
            List<String> options = List.of("--release", "17", "-proc:none");
            JavacTask task = (JavacTask) compiler.getTask(null, files, null, options, null, files.getJavaFileObjects(SOURCE));
            CompilationUnitTree unit = task.parse().iterator().next();
            task.analyze();
            Rules rules = new Rules(unit, Trees.instance(task));
            rules.scan(unit, null);
            rules.end();
        }
        CHECK.end();
    }

    private static void rule(int number, String what, boolean holds) {
        CHECK.due("rule " + number + ": " + what, holds ? 1 : 0, 1);
    }

    private static void signs(String text) {
        boolean isPlain = true;
        for (int i = 0; i < text.length(); i++) {
            isPlain = isPlain && text.charAt(i) >= 1 && text.charAt(i) <= 127;
        }
        rule(4, "signs are 1 to 127", isPlain);
    }

    private static final class Rules extends TreePathScanner<Void, Void> {
        private final CompilationUnitTree unit;
        private final Trees trees;
        private final Map<Element, Set<Element>> calls = new HashMap<>();
        private int classes;

        Rules(CompilationUnitTree itsUnit, Trees itsTrees) {
            unit = itsUnit;
            trees = itsTrees;
        }

        private String at(Tree tree) {
            long place = trees.getSourcePositions().getStartPosition(unit, tree);
            return "line " + unit.getLineMap().getLineNumber(place);
        }

        private void none(int number, String what, Tree tree) {
            rule(number, what + ", " + at(tree), false);
        }

        private Element element() {
            return trees.getElement(getCurrentPath());
        }

        private Element element(Tree tree) {
            return trees.getElement(new TreePath(getCurrentPath(), tree));
        }

        private MethodTree method() {
            for (TreePath p = getCurrentPath(); p != null; p = p.getParentPath()) {
                if (p.getLeaf() instanceof MethodTree m) {
                    return m;
                }
            }
            return null;
        }

        @Override
        public Void visitCompilationUnit(CompilationUnitTree tree, Void v) {
            rule(0, "no package", tree.getPackage() == null);
            rule(1, "one class alone", tree.getTypeDecls().size() == 1);
            return super.visitCompilationUnit(tree, v);
        }

        @Override
        public Void visitImport(ImportTree tree, Void v) {
            rule(4, "import " + tree.getQualifiedIdentifier(), tree.getQualifiedIdentifier().toString().equals("java.util.Arrays"));
            return super.visitImport(tree, v);
        }

        @Override
        public Void visitClass(ClassTree tree, Void v) {
            classes++;
            String name = tree.getSimpleName().toString();
            rule(2, name + " is a class", tree.getKind() == Tree.Kind.CLASS);
            rule(2, name + " stands in the class itself", getCurrentPath().getParentPath().getLeaf() instanceof CompilationUnitTree
                || getCurrentPath().getParentPath().getParentPath().getLeaf() instanceof CompilationUnitTree);
            int fields = 0;
            for (Tree member : tree.getMembers()) {
                rule(5, "no initialiser block, " + at(member), member.getKind() != Tree.Kind.BLOCK);
                if (member instanceof VariableTree field) {
                    boolean isStatic = field.getModifiers().getFlags().contains(Modifier.STATIC);
                    fields += isStatic ? 0 : 1;
                    rule(5, field.getName() + " is final", !isStatic || field.getModifiers().getFlags().contains(Modifier.FINAL));
                    rule(5, field.getName() + " is a number", !isStatic || field.getType().toString().matches("int|long"));
                }
            }
            rule(11, name + " has few fields: " + fields, fields <= MOST_FIELDS);
            return super.visitClass(tree, v);
        }

        @Override
        public Void visitMethod(MethodTree tree, Void v) {
            String name = at(tree) + " " + tree.getName();
            Element mine = element();
            calls.put(mine, new LinkedHashSet<>());
            rule(11, name + " takes few", tree.getParameters().size() <= MOST_PARAMETERS);
            long from = trees.getSourcePositions().getStartPosition(unit, tree);
            long to = trees.getSourcePositions().getEndPosition(unit, tree);
            long lines = unit.getLineMap().getLineNumber(to) - unit.getLineMap().getLineNumber(from) + 1;
            rule(11, name + " is short: " + lines, lines <= MOST_LINES);
            rule(6, name + " throws nothing", tree.getThrows().isEmpty());
            boolean isOfAny = List.of("equals", "hashCode", "toString", "finalize", "clone").contains(tree.getName().toString());
            rule(6, name + " is none of Object's", !isOfAny);
            rule(1, name + " is no other main", !tree.getName().contentEquals("main"));
            return super.visitMethod(tree, v);
        }

        @Override
        public Void visitVariable(VariableTree tree, Void v) {
            TypeMirror type = trees.getTypeMirror(new TreePath(getCurrentPath(), tree.getType()));
            rule(3, at(tree) + " " + tree.getName() + " is a " + type, isTaken(type));
            return super.visitVariable(tree, v);
        }

        private boolean isTaken(TypeMirror type) {
            String name = type.toString();
            boolean isOwn = name.startsWith("WishedResistor.");
            boolean isOwnRow = isOwn && name.endsWith("[]") && !name.endsWith("[][]");
            return type.getKind().isPrimitive() || name.matches("(int|long|short|byte|char|boolean|double|float)(\\[\\]){1,2}")
                || isOwnRow || isOwn && type.getKind() == TypeKind.DECLARED;
        }

        @Override
        public Void visitMethodInvocation(MethodInvocationTree tree, Void v) {
            Element called = element(tree.getMethodSelect());
            String owner = called.getEnclosingElement().toString();
            String name = called.getEnclosingElement().getSimpleName() + "." + called.getSimpleName();
            boolean isOwn = owner.startsWith("WishedResistor");
            boolean isSuper = called.getKind() == ElementKind.CONSTRUCTOR;
            rule(4, at(tree) + " calls " + name, isOwn || isSuper || LIBRARY.contains(name));
            if (isOwn) {
                note(called);
            }
            return super.visitMethodInvocation(tree, v);
        }

        private void note(Element called) {
            MethodTree by = method();
            if (by != null) {
                calls.get(trees.getElement(TreePath.getPath(unit, by))).add(called);
            }
        }

        @Override
        public Void visitNewClass(NewClassTree tree, Void v) {
            Element made = element();
            rule(4, at(tree) + " makes its own", made.getEnclosingElement().toString().startsWith("WishedResistor."));
            rule(2, at(tree) + " without a body", tree.getClassBody() == null);
            made(tree);
            note(made);
            return super.visitNewClass(tree, v);
        }

        @Override
        public Void visitNewArray(NewArrayTree tree, Void v) {
            made(tree);
            for (ExpressionTree length : tree.getDimensions()) {
                boolean isFixed = true;
                Set<Element> used = new HashSet<>();
                new TreePathScanner<Void, Void>() {
                    @Override
                    public Void visitIdentifier(IdentifierTree name, Void none) {
                        used.add(trees.getElement(getCurrentPath()));
                        return null;
                    }
                }.scan(new TreePath(getCurrentPath(), length), null);
                for (Element e : used) {
                    isFixed = isFixed && e.getModifiers().contains(Modifier.STATIC) && e.getModifiers().contains(Modifier.FINAL);
                }
                rule(7, at(tree) + " a length that is fixed", isFixed);
            }
            return super.visitNewArray(tree, v);
        }

        /** Rule 12 would take more: here all is made by constructors, so no call makes anything. */
        private void made(Tree tree) {
            MethodTree by = method();
            rule(12, at(tree) + " is made by a constructor", by == null || by.getReturnType() == null);
        }

        @Override
        public Void visitForLoop(ForLoopTree tree, Void v) {
            rule(9, at(tree) + " has a counter, a bound, a step", tree.getInitializer().size() == 1 && tree.getCondition() != null
                && tree.getUpdate().size() == 1);
            if (tree.getInitializer().size() == 1 && tree.getInitializer().get(0) instanceof VariableTree counter && tree.getCondition() != null) {
                String name = counter.getName().toString();
                rule(9, at(tree) + " its counter is in its bound", tree.getCondition().toString().matches("(?s).*\\b" + name + "\\b.*"));
                rule(9, at(tree) + " its counter is stepped", tree.getUpdate().toString().matches("(?s).*\\b" + name + "\\b.*"));
                rule(9, at(tree) + " its counter is set by its step alone", !isSet(tree.getStatement(), name));
            }
            return super.visitForLoop(tree, v);
        }

        private boolean isSet(Tree body, String name) {
            String text = body.toString();
            return text.matches("(?s).*\\b" + name + "(\\+\\+|--| [-+*/%&|^]?= ).*") || text.matches("(?s).*(\\+\\+|--)" + name + "\\b.*");
        }

        @Override
        public Void visitWhileLoop(WhileLoopTree tree, Void v) {
            none(9, "a loop without a counter", tree);
            return null;
        }

        @Override
        public Void visitDoWhileLoop(DoWhileLoopTree tree, Void v) {
            none(9, "a loop without a counter", tree);
            return null;
        }

        @Override
        public Void visitLambdaExpression(LambdaExpressionTree tree, Void v) {
            none(2, "a lambda", tree);
            return null;
        }

        @Override
        public Void visitMemberReference(MemberReferenceTree tree, Void v) {
            none(2, "a method reference", tree);
            return null;
        }

        @Override
        public Void visitThrow(ThrowTree tree, Void v) {
            none(6, "the document names no exception", tree);
            return null;
        }

        @Override
        public Void visitTry(TryTree tree, Void v) {
            none(6, "nothing is to be caught", tree);
            return null;
        }

        @Override
        public Void visitSynchronized(SynchronizedTree tree, Void v) {
            none(6, "synchronized", tree);
            return null;
        }

        @Override
        public Void visitAssert(AssertTree tree, Void v) {
            none(6, "assert", tree);
            return null;
        }

        @Override
        public Void visitInstanceOf(InstanceOfTree tree, Void v) {
            none(6, "instanceof is not needed", tree);
            return null;
        }

        @Override
        public Void visitSwitch(SwitchTree tree, Void v) {
            ExpressionTree on = tree.getExpression();
            TreePath brackets = new TreePath(getCurrentPath(), on);
            TypeMirror type = trees.getTypeMirror(new TreePath(brackets, ((ParenthesizedTree) on).getExpression()));
            rule(10, at(tree) + " switch on a number", type.getKind() == TypeKind.INT);
            return super.visitSwitch(tree, v);
        }

        @Override
        public Void visitTypeCast(TypeCastTree tree, Void v) {
            rule(7, at(tree) + " a cast of numbers", tree.getType().getKind() == Tree.Kind.PRIMITIVE_TYPE);
            return super.visitTypeCast(tree, v);
        }

        @Override
        public Void visitLiteral(LiteralTree tree, Void v) {
            rule(7, at(tree) + " no null", tree.getKind() != Tree.Kind.NULL_LITERAL);
            rule(3, at(tree) + " no text", tree.getKind() != Tree.Kind.STRING_LITERAL);
            return super.visitLiteral(tree, v);
        }

        @Override
        public Void visitBinary(BinaryTree tree, Void v) {
            TypeMirror left = trees.getTypeMirror(new TreePath(getCurrentPath(), tree.getLeftOperand()));
            TypeMirror right = trees.getTypeMirror(new TreePath(getCurrentPath(), tree.getRightOperand()));
            rule(6, at(tree) + " of numbers alone: " + tree, left.getKind().isPrimitive() && right.getKind().isPrimitive());
            boolean isWhole = left.getKind() != TypeKind.DOUBLE && left.getKind() != TypeKind.FLOAT && right.getKind() != TypeKind.DOUBLE
                && right.getKind() != TypeKind.FLOAT;
            if (isWhole && (tree.getKind() == Tree.Kind.DIVIDE || tree.getKind() == Tree.Kind.REMAINDER)) {
                divisor(tree);
            }
            return super.visitBinary(tree, v);
        }

        /** A number that is written, or one that is looked at ahead of it in the same method. */
        private void divisor(BinaryTree tree) {
            String by = tree.getRightOperand().toString();
            String body = method().getBody().toString();
            int place = body.indexOf(tree.toString());
            String ahead = place < 0 ? "" : body.substring(0, place);
            boolean isLookedAt = ahead.contains(by + " != 0") || ahead.contains(by + " == 0");
            rule(7, at(tree) + " divides by what is not 0: " + by, by.matches("[1-9][0-9]*") || isLookedAt);
        }

        void end() {
            rule(11, "few classes: " + classes, classes <= MOST_CLASSES);
            int deepest = 0;
            for (Element e : calls.keySet()) {
                deepest = Math.max(deepest, depth(e, new ArrayList<>()));
            }
            System.out.println("SourceTest: calls go " + deepest + " deep");
            rule(11, "calls go " + deepest + " deep", deepest <= MOST_DEEP);
            for (Element e : calls.keySet()) {
                boolean isPrivate = e.getModifiers().contains(Modifier.PRIVATE);
                rule(1, e + " is no private one of a public name", !isPrivate || !isFace(e.getSimpleName().toString()));
            }
        }

        private boolean isFace(String name) {
            for (Element e : calls.keySet()) {
                boolean isPublic = e.getKind() == ElementKind.METHOD && e.getModifiers().contains(Modifier.PUBLIC);
                if (isPublic && e.getSimpleName().contentEquals(name)) {
                    return true;
                }
            }
            return false;
        }

        /** How many calls stand open at once below this one, itself among them; none may be its own. */
        private int depth(Element e, List<Element> open) {
            if (open.contains(e)) {
                rule(8, e + " calls itself: " + open, false);
                return 0;
            }
            open.add(e);
            int below = 0;
            for (Element c : calls.getOrDefault(e, Set.of())) {
                below = Math.max(below, depth(c, open));
            }
            open.remove(e);
            return below + 1;
        }
    }
}
