import com.sun.source.tree.AssertTree;
import com.sun.source.tree.BinaryTree;
import com.sun.source.tree.ClassTree;
import com.sun.source.tree.CompilationUnitTree;
import com.sun.source.tree.DoWhileLoopTree;
import com.sun.source.tree.ExpressionTree;
import com.sun.source.tree.ForLoopTree;
import com.sun.source.tree.ImportTree;
import com.sun.source.tree.LambdaExpressionTree;
import com.sun.source.tree.LiteralTree;
import com.sun.source.tree.MemberReferenceTree;
import com.sun.source.tree.MethodInvocationTree;
import com.sun.source.tree.MethodTree;
import com.sun.source.tree.NewArrayTree;
import com.sun.source.tree.NewClassTree;
import com.sun.source.tree.SynchronizedTree;
import com.sun.source.tree.ThrowTree;
import com.sun.source.tree.Tree;
import com.sun.source.tree.TryTree;
import com.sun.source.tree.TypeCastTree;
import com.sun.source.tree.VariableTree;
import com.sun.source.tree.WhileLoopTree;
import com.sun.source.util.JavacTask;
import com.sun.source.util.TreePath;
import com.sun.source.util.TreePathScanner;
import com.sun.source.util.Trees;
import java.io.File;
import java.util.HashMap;
import java.util.HashSet;
import java.util.List;
import java.util.Map;
import java.util.Set;
import java.util.TreeSet;
import javax.lang.model.element.Element;
import javax.lang.model.element.ElementKind;
import javax.lang.model.element.ExecutableElement;
import javax.lang.model.element.Modifier;
import javax.lang.model.element.TypeElement;
import javax.lang.model.type.ArrayType;
import javax.lang.model.type.TypeKind;
import javax.lang.model.type.TypeMirror;
import javax.tools.JavaCompiler;
import javax.tools.StandardJavaFileManager;
import javax.tools.ToolProvider;

/**
 * The class keeps to what can be read off its text of the rules 1 to 13 of ../shared/LANGUAGE.md: the compiler
 * tells its tree, and each place where a rule is broken is printed with the rule's number. The test is narrower than
 * the rules where the class needs less: no try, no recursion, no cast of objects, nothing new outside a constructor.
 */
public final class LanguageTest {
    private static final String FILE = "src/main/java/DropflagMill.java";
    private static final int MOST_PARAMETERS = 7;
    private static final int MOST_ROWS = 60;
    private static final int MOST_CALLS_DEEP = 8;
    private static final int MOST_CLASSES = 12;
    private static final int MOST_FIELDS = 20;
    private static final Set<String> EXCEPTIONS = Set.of("IllegalStateException", "IllegalArgumentException",
        "IndexOutOfBoundsException", "ArithmeticException", "UnsupportedOperationException", "NoSuchElementException",
        "RuntimeException");
    private static final Set<String> LIBRARY = Set.of("System.arraycopy", "Arrays.copyOf", "Arrays.copyOfRange",
        "Arrays.fill", "String.length", "String.charAt", "String.isEmpty", "String.equals", "String.indexOf",
        "String.substring", "String.toCharArray", "StringBuilder.append", "StringBuilder.charAt",
        "StringBuilder.setCharAt", "StringBuilder.setLength", "StringBuilder.deleteCharAt", "StringBuilder.reverse",
        "StringBuilder.length", "StringBuilder.toString");
    private static final Set<String> IMPORTS = Set.of("java.util.Arrays", "java.util.ArrayList", "java.util.List",
        "java.util.Iterator", "java.util.NoSuchElementException");

    private static int wrong = 0;
    private static int looked = 0;

    public static void main(String[] args) throws Exception {
        JavaCompiler compiler = ToolProvider.getSystemJavaCompiler();
        StandardJavaFileManager files = compiler.getStandardFileManager(null, null, null);
        JavacTask task = (JavacTask) compiler.getTask(null, files, null, List.of("-proc:none"), null,
            files.getJavaFileObjects(new File(args.length > 0 ? args[0] : FILE)));
        Look look = new Look(Trees.instance(task));
        for (CompilationUnitTree unit : task.parse()) {
            task.analyze();
            look.unit = unit;
            look.scan(unit, null);
        }
        look.countClasses();
        look.followCalls();
        System.out.println(looked + " places looked at, " + wrong + " wrong");
        System.exit(wrong == 0 && looked > 1000 ? 0 : 1);
    }

    private static final class Look extends TreePathScanner<Void, Void> {
        private final Trees trees;
        private final Set<String> face = new TreeSet<>();
        private final Set<String> privates = new TreeSet<>();
        private final Map<Element, Set<Element>> calls = new HashMap<>();
        private final Map<Element, Integer> depths = new HashMap<>();
        private final Set<Element> open = new HashSet<>();
        private CompilationUnitTree unit;
        private MethodTree method;
        private int classes;

        Look(Trees trees) {
            this.trees = trees;
        }

        private void rule(int number, Tree at, String what, boolean holds) {
            looked++;
            if (!holds) {
                wrong++;
                System.out.println("rule " + number + ", row " + row(at, true) + ": " + what);
            }
        }

        private long row(Tree tree, boolean isFirst) {
            long place = isFirst ? trees.getSourcePositions().getStartPosition(unit, tree)
                : trees.getSourcePositions().getEndPosition(unit, tree);
            return unit.getLineMap().getLineNumber(Math.max(0, place));
        }

        private Element element() {
            return trees.getElement(getCurrentPath());
        }

        private boolean isOwn(Element element) {
            Element each = element;
            while (each != null && !(each instanceof TypeElement && each.getSimpleName().contentEquals("DropflagMill"))) {
                each = each.getEnclosingElement();
            }
            return each != null;
        }

        private boolean isAllowed(TypeMirror type) {
            if (type.getKind().isPrimitive() || type.getKind() == TypeKind.VOID) {
                return true;
            }
            if (type instanceof ArrayType) {
                TypeMirror of = ((ArrayType) type).getComponentType();
                boolean isRowOfNumbers = of instanceof ArrayType
                    && ((ArrayType) of).getComponentType().getKind().isPrimitive();
                return isRowOfNumbers || !(of instanceof ArrayType) && isAllowed(of);
            }
            String name = type.toString();
            return name.startsWith("DropflagMill") || name.equals("java.lang.String")
                || name.equals("java.lang.StringBuilder");
        }

        private boolean isInLoop() {
            for (TreePath path = getCurrentPath(); path != null; path = path.getParentPath()) {
                Tree.Kind kind = path.getLeaf().getKind();
                if (kind == Tree.Kind.FOR_LOOP || kind == Tree.Kind.WHILE_LOOP || kind == Tree.Kind.DO_WHILE_LOOP
                    || kind == Tree.Kind.ENHANCED_FOR_LOOP) {
                    return true;
                }
            }
            return false;
        }

        @Override
        public Void visitCompilationUnit(CompilationUnitTree tree, Void none) {
            rule(1, tree, "a package line", tree.getPackage() == null);
            rule(1, tree, "one class alone stands in the file", tree.getTypeDecls().size() == 1);
            return super.visitCompilationUnit(tree, none);
        }

        @Override
        public Void visitImport(ImportTree tree, Void none) {
            rule(4, tree, tree.toString().trim(),
                !tree.isStatic() && IMPORTS.contains(tree.getQualifiedIdentifier().toString()));
            return super.visitImport(tree, none);
        }

        @Override
        public Void visitClass(ClassTree tree, Void none) {
            classes++;
            Element element = element();
            boolean isInside = element.getEnclosingElement() instanceof TypeElement;
            Set<Modifier> how = element.getModifiers();
            rule(2, tree, "a class that is not nested in the one class", isInside || classes == 1);
            rule(1, tree, "a class inside is private or package-visible, and static", !isInside
                || how.contains(Modifier.STATIC) && !how.contains(Modifier.PUBLIC) && !how.contains(Modifier.PROTECTED));
            int fields = 0;
            for (Element member : element.getEnclosedElements()) {
                boolean isField = member.getKind() == ElementKind.FIELD;
                fields += isField && !member.getModifiers().contains(Modifier.STATIC) ? 1 : 0;
                if (member.getKind() == ElementKind.METHOD) {
                    String name = member.getSimpleName().toString();
                    (member.getModifiers().contains(Modifier.PUBLIC) && !isInside ? face : privates).add(name);
                }
            }
            rule(11, tree, fields + " fields", fields <= MOST_FIELDS);
            return super.visitClass(tree, none);
        }

        @Override
        public Void visitMethod(MethodTree tree, Void none) {
            MethodTree outer = method;
            method = tree;
            int rows = (int) (row(tree, false) - row(tree, true)) + 1;
            rule(11, tree, tree.getName() + " has " + rows + " rows", rows <= MOST_ROWS);
            rule(11, tree, tree.getName() + " has too many parameters", tree.getParameters().size() <= MOST_PARAMETERS);
            ExecutableElement element = (ExecutableElement) element();
            rule(3, tree, "the type that " + tree.getName() + " answers", isAllowed(element.getReturnType()));
            rule(6, tree, tree.getName() + " is one of every object",
                !Set.of("equals", "hashCode", "toString").contains(tree.getName().toString()));
            calls.computeIfAbsent(element, each -> new HashSet<>());
            super.visitMethod(tree, none);
            method = outer;
            return null;
        }

        @Override
        public Void visitVariable(VariableTree tree, Void none) {
            Element element = element();
            rule(3, tree, "the type of " + tree.getName(), isAllowed(element.asType()));
            if (element.getKind() == ElementKind.FIELD && element.getModifiers().contains(Modifier.STATIC)) {
                String type = element.asType().toString();
                boolean isPlain = Set.of("int", "long", "boolean", "char", "java.lang.String").contains(type);
                boolean isRow = Set.of("int[]", "long[]", "char[]", "byte[]").contains(type)
                    && tree.getInitializer() instanceof NewArrayTree;
                rule(5, tree, tree.getName() + " is static", element.getModifiers().contains(Modifier.FINAL)
                    && element.getModifiers().contains(Modifier.PRIVATE) && (isPlain || isRow));
            }
            return super.visitVariable(tree, none);
        }

        @Override
        public Void visitBlock(com.sun.source.tree.BlockTree tree, Void none) {
            rule(5, tree, "a static block", !tree.isStatic());
            return super.visitBlock(tree, none);
        }

        @Override
        public Void visitMethodInvocation(MethodInvocationTree tree, Void none) {
            Element called = element();
            if (isOwn(called)) {
                Element from = trees.getElement(trees.getPath(unit, method));
                calls.computeIfAbsent(from, each -> new HashSet<>()).add(called);
            } else if (called.getKind() == ElementKind.METHOD) {
                String of = called.getEnclosingElement().getSimpleName().toString();
                String name = called.getSimpleName().toString();
                boolean isCount = Set.of("Integer", "Long", "Math").contains(of) && !name.endsWith("Exact")
                    && called.getModifiers().contains(Modifier.STATIC)
                    && Set.of("int", "long").contains(((ExecutableElement) called).getReturnType().toString());
                rule(4, tree, of + "." + name, isCount || LIBRARY.contains(of + "." + name));
            }
            return super.visitMethodInvocation(tree, none);
        }

        @Override
        public Void visitNewClass(NewClassTree tree, Void none) {
            boolean isThrown = getCurrentPath().getParentPath().getLeaf() instanceof ThrowTree;
            boolean isMade = method != null && method.getReturnType() == null && isOwn(element());
            rule(12, tree, "an object that is made by a call", isThrown || isMade);
            rule(12, tree, "an object that is made in a loop", !isInLoop());
            rule(2, tree, "an anonymous class", tree.getClassBody() == null);
            return super.visitNewClass(tree, none);
        }

        @Override
        public Void visitNewArray(NewArrayTree tree, Void none) {
            rule(12, tree, "an array that is made by a call", method == null || method.getReturnType() == null);
            return super.visitNewArray(tree, none);
        }

        @Override
        public Void visitThrow(ThrowTree tree, Void none) {
            ExpressionTree thrown = tree.getExpression();
            rule(6, tree, "a throw in a constructor", method.getReturnType() != null);
            rule(6, tree, "a throw of what is not new", thrown instanceof NewClassTree);
            if (thrown instanceof NewClassTree) {
                NewClassTree made = (NewClassTree) thrown;
                rule(6, tree, made.getIdentifier() + " is thrown", EXCEPTIONS.contains(made.getIdentifier().toString()));
                List<? extends ExpressionTree> with = made.getArguments();
                rule(6, tree, "a text that is not written out",
                    with.isEmpty() || with.size() == 1 && with.get(0) instanceof LiteralTree);
            }
            return super.visitThrow(tree, none);
        }

        @Override
        public Void visitTry(TryTree tree, Void none) {
            rule(6, tree, "a try", false);
            return super.visitTry(tree, none);
        }

        @Override
        public Void visitSynchronized(SynchronizedTree tree, Void none) {
            rule(6, tree, "synchronized", false);
            return super.visitSynchronized(tree, none);
        }

        @Override
        public Void visitAssert(AssertTree tree, Void none) {
            rule(6, tree, "assert", false);
            return super.visitAssert(tree, none);
        }

        @Override
        public Void visitTypeCast(TypeCastTree tree, Void none) {
            rule(6, tree, "a cast of an object", element() == null
                && trees.getTypeMirror(getCurrentPath()).getKind().isPrimitive());
            return super.visitTypeCast(tree, none);
        }

        @Override
        public Void visitLambdaExpression(LambdaExpressionTree tree, Void none) {
            rule(2, tree, "a lambda", false);
            return super.visitLambdaExpression(tree, none);
        }

        @Override
        public Void visitMemberReference(MemberReferenceTree tree, Void none) {
            rule(2, tree, "a method reference", false);
            return super.visitMemberReference(tree, none);
        }

        @Override
        public Void visitBinary(BinaryTree tree, Void none) {
            TypeMirror type = trees.getTypeMirror(getCurrentPath());
            rule(10, tree, "texts that are joined by +", type.getKind().isPrimitive());
            boolean isOfParts = type.getKind() == TypeKind.DOUBLE || type.getKind() == TypeKind.FLOAT;
            rule(3, tree, "a remainder of doubles", !isOfParts || tree.getKind() != Tree.Kind.REMAINDER);
            return super.visitBinary(tree, none);
        }

        @Override
        public Void visitLiteral(LiteralTree tree, Void none) {
            if (tree.getValue() instanceof String) {
                boolean isPlain = true;
                for (char sign : ((String) tree.getValue()).toCharArray()) {
                    isPlain = isPlain && sign >= 1 && sign <= 127;
                }
                rule(4, tree, "a text with other signs", isPlain);
            }
            return super.visitLiteral(tree, none);
        }

        private void bounded(Tree loop, ExpressionTree condition) {
            boolean hasBound = condition != null && condition.toString().matches("(?s).*(<|>|<=|>=) .*");
            rule(9, loop, "a loop without a bound in its head", hasBound);
        }

        @Override
        public Void visitForLoop(ForLoopTree tree, Void none) {
            bounded(tree, tree.getCondition());
            return super.visitForLoop(tree, none);
        }

        @Override
        public Void visitWhileLoop(WhileLoopTree tree, Void none) {
            bounded(tree, tree.getCondition());
            return super.visitWhileLoop(tree, none);
        }

        @Override
        public Void visitDoWhileLoop(DoWhileLoopTree tree, Void none) {
            bounded(tree, tree.getCondition());
            return super.visitDoWhileLoop(tree, none);
        }

        void countClasses() {
            rule(11, unit, classes + " classes", classes <= MOST_CLASSES);
            for (String name : face) {
                rule(1, unit, "a method inside bears the name " + name, !privates.contains(name));
            }
        }

        void followCalls() {
            for (Element each : List.copyOf(calls.keySet())) {
                int depth = depth(each);
                rule(11, unit, each + " goes " + depth + " calls deep", depth <= MOST_CALLS_DEEP);
            }
        }

        /** How many calls stand open at most, with this one. */
        private int depth(Element from) {
            if (depths.containsKey(from)) {
                return depths.get(from);
            }
            open.add(from);
            int deepest = 0;
            for (Element to : calls.getOrDefault(from, Set.of())) {
                rule(8, unit, from + " calls itself by " + to, !open.contains(to));
                deepest = Math.max(deepest, open.contains(to) ? 0 : depth(to));
            }
            open.remove(from);
            depths.put(from, deepest + 1);
            return deepest + 1;
        }
    }
}
