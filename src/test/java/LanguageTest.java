import com.sun.source.tree.AssertTree;
import com.sun.source.tree.BinaryTree;
import com.sun.source.tree.BlockTree;
import com.sun.source.tree.ClassTree;
import com.sun.source.tree.CompilationUnitTree;
import com.sun.source.tree.CompoundAssignmentTree;
import com.sun.source.tree.DoWhileLoopTree;
import com.sun.source.tree.ExpressionTree;
import com.sun.source.tree.ForLoopTree;
import com.sun.source.tree.ImportTree;
import com.sun.source.tree.LambdaExpressionTree;
import com.sun.source.tree.MemberReferenceTree;
import com.sun.source.tree.MethodInvocationTree;
import com.sun.source.tree.MethodTree;
import com.sun.source.tree.NewClassTree;
import com.sun.source.tree.SynchronizedTree;
import com.sun.source.tree.ThrowTree;
import com.sun.source.tree.Tree;
import com.sun.source.tree.TryTree;
import com.sun.source.tree.TypeCastTree;
import com.sun.source.tree.VariableTree;
import com.sun.source.tree.WhileLoopTree;
import com.sun.source.util.JavacTask;
import com.sun.source.util.SourcePositions;
import com.sun.source.util.TreePath;
import com.sun.source.util.TreePathScanner;
import com.sun.source.util.Trees;
import java.io.IOException;
import java.nio.file.Path;
import java.util.List;
import java.util.Map;
import java.util.Set;
import java.util.TreeMap;
import java.util.TreeSet;
import javax.lang.model.element.Element;
import javax.lang.model.element.ElementKind;
import javax.lang.model.element.ExecutableElement;
import javax.lang.model.element.Modifier;
import javax.lang.model.element.TypeElement;
import javax.lang.model.type.ArrayType;
import javax.lang.model.type.TypeKind;
import javax.lang.model.type.TypeMirror;
import javax.tools.JavaCompiler;
import javax.tools.StandardJavaFileManager;
import javax.tools.ToolProvider;

/**
 * What of LANGUAGE.md can be seen in the program's text, as the compiler reads it; run from the project's folder.
 * It is narrower than the rules where the program needs less than they leave, such as exceptions and lists.
 */
public final class LanguageTest {
    private static final Path PROGRAM = Path.of("src/main/java/ForgettingLines.java");
    private static final String FACE = "ForgettingLines";
    private static final int MOST_LINES = 60, MOST_PARAMETERS = 7, MOST_CLASSES = 12, MOST_FIELDS = 20, MOST_DEEP = 8;
    private static final Set<String> IMPORTS = Set.of("java.util.Arrays");
    private static final Set<String> LIBRARY = Set.of("java.util.Arrays.fill", "java.lang.Object.<init>");
    private static final Set<TypeKind> NUMBERS = Set.of(
        TypeKind.INT, TypeKind.LONG, TypeKind.SHORT, TypeKind.BYTE, TypeKind.CHAR, TypeKind.BOOLEAN);
    private static final Set<String> CONSTANTS = Set.of(
        "int", "long", "boolean", "char", "java.lang.String", "int[]", "long[]", "char[]", "byte[]");

    private static int wrong = 0;

    private static void say(String what) {
        wrong++;
        System.out.println(what);
    }

    public static void main(String[] args) throws IOException {
        Path program = args.length > 0 ? Path.of(args[0]) : PROGRAM;
        JavaCompiler compiler = ToolProvider.getSystemJavaCompiler();
        try (StandardJavaFileManager files = compiler.getStandardFileManager(null, null, null)) {
            JavacTask task = (JavacTask) compiler.getTask(
                null, files, null, List.of("-proc:none", "--release", "17"), null, files.getJavaFileObjects(program));
            Iterable<? extends CompilationUnitTree> units = task.parse();
            task.analyze();
            Reader reader = new Reader(Trees.instance(task));
            reader.scan(units, null);
            reader.dueAtLast();
        }
        System.out.println(wrong == 0 ? "the language is as due" : wrong + " things are not as due");
        if (wrong != 0) {
            System.exit(1);
        }
    }

    /** Goes through all that is written, and keeps which method calls which. */
    private static final class Reader extends TreePathScanner<Void, Void> {
        private final Trees trees;
        private final SourcePositions positions;
        private final Map<String, Set<String>> calls = new TreeMap<>();
        private final Set<String> openNames = new TreeSet<>();
        private final Set<String> privateNames = new TreeSet<>();
        private int classes = 0;
        private String method = "";

        Reader(Trees trees) {
            this.trees = trees;
            positions = trees.getSourcePositions();
        }

        private Element element() {
            return trees.getElement(getCurrentPath());
        }

        private void ruledOut(String rule, Tree tree) {
            CompilationUnitTree unit = getCurrentPath().getCompilationUnit();
            long line = unit.getLineMap().getLineNumber(positions.getStartPosition(unit, tree));
            say("rule " + rule + ", line " + line + ": " + tree.toString().lines().findFirst().orElse(""));
        }

        private void dueIf(boolean is, String rule, Tree tree) {
            if (!is) {
                ruledOut(rule, tree);
            }
        }

        private static boolean isOwn(Element type) {
            return type != null && (type.toString().equals(FACE) || type.toString().startsWith(FACE + "."));
        }

        // ---- what is ruled out altogether

        @Override
        public Void visitLambdaExpression(LambdaExpressionTree tree, Void none) {
            ruledOut("2", tree);
            return super.visitLambdaExpression(tree, none);
        }

        @Override
        public Void visitMemberReference(MemberReferenceTree tree, Void none) {
            ruledOut("2", tree);
            return super.visitMemberReference(tree, none);
        }

        @Override
        public Void visitTry(TryTree tree, Void none) {
            ruledOut("6", tree);
            return super.visitTry(tree, none);
        }

        @Override
        public Void visitThrow(ThrowTree tree, Void none) {
            ruledOut("6", tree);
            return super.visitThrow(tree, none);
        }

        @Override
        public Void visitSynchronized(SynchronizedTree tree, Void none) {
            ruledOut("6", tree);
            return super.visitSynchronized(tree, none);
        }

        @Override
        public Void visitAssert(AssertTree tree, Void none) {
            ruledOut("6", tree);
            return super.visitAssert(tree, none);
        }

        // ---- the library, types, numbers

        @Override
        public Void visitCompilationUnit(CompilationUnitTree tree, Void none) {
            dueIf(tree.getPackage() == null, "the package", tree);
            dueIf(tree.getTypeDecls().size() == 1, "one class", tree);
            return super.visitCompilationUnit(tree, none);
        }

        @Override
        public Void visitImport(ImportTree tree, Void none) {
            dueIf(IMPORTS.contains(tree.getQualifiedIdentifier().toString()) && !tree.isStatic(), "4", tree);
            return super.visitImport(tree, none);
        }

        @Override
        public Void visitMethodInvocation(MethodInvocationTree tree, Void none) {
            called(trees.getElement(new TreePath(getCurrentPath(), tree.getMethodSelect())), tree);
            return super.visitMethodInvocation(tree, none);
        }

        @Override
        public Void visitNewClass(NewClassTree tree, Void none) {
            called(element(), tree);
            return super.visitNewClass(tree, none);
        }

        private void called(Element callee, Tree tree) {
            String name = nameOf(callee);
            if (isOwn(callee.getEnclosingElement())) {
                calls.computeIfAbsent(method, key -> new TreeSet<>()).add(name);
            } else {
                dueIf(LIBRARY.contains(name.substring(0, name.indexOf('('))), "4", tree);
            }
        }

        private static String nameOf(Element callee) {
            return callee.getEnclosingElement() + "." + callee.getSimpleName() + "("
                + String.join(",", ((ExecutableElement) callee).getParameters().stream().map(p -> "" + p.asType()).toList()) + ")";
        }

        @Override
        public Void visitVariable(VariableTree tree, Void none) {
            Element variable = element();
            dueIf(isPlain(variable.asType()), "3", tree);
            if (variable.getKind() == ElementKind.FIELD && variable.getModifiers().contains(Modifier.STATIC)) {
                boolean isFinal = variable.getModifiers().contains(Modifier.FINAL);
                dueIf(isFinal && CONSTANTS.contains(variable.asType().toString()), "5", tree);
            }
            return super.visitVariable(tree, none);
        }

        private boolean isPlain(TypeMirror type) {
            if (type.getKind() == TypeKind.ARRAY) {
                TypeMirror part = ((ArrayType) type).getComponentType();
                return part.getKind() != TypeKind.ARRAY && isPlain(part);
            }
            return NUMBERS.contains(type.getKind()) || type.toString().startsWith(FACE);
        }

        @Override
        public Void visitTypeCast(TypeCastTree tree, Void none) {
            dueIf(NUMBERS.contains(trees.getTypeMirror(new TreePath(getCurrentPath(), tree.getType())).getKind()), "6", tree);
            return super.visitTypeCast(tree, none);
        }

        @Override
        public Void visitBinary(BinaryTree tree, Void none) {
            TypeKind kind = trees.getTypeMirror(getCurrentPath()).getKind();
            dueIf(NUMBERS.contains(kind), "10", tree);
            boolean divides = tree.getKind() == Tree.Kind.DIVIDE || tree.getKind() == Tree.Kind.REMAINDER;
            dueIf(!divides || isWritten(tree.getRightOperand()), "7", tree);
            return super.visitBinary(tree, none);
        }

        @Override
        public Void visitCompoundAssignment(CompoundAssignmentTree tree, Void none) {
            boolean divides = tree.getKind() == Tree.Kind.DIVIDE_ASSIGNMENT || tree.getKind() == Tree.Kind.REMAINDER_ASSIGNMENT;
            dueIf(!divides || isWritten(tree.getExpression()), "7", tree);
            return super.visitCompoundAssignment(tree, none);
        }

        private static boolean isWritten(ExpressionTree divisor) {
            return divisor.getKind() == Tree.Kind.INT_LITERAL && !divisor.toString().equals("0");
        }

        // ---- loops

        @Override
        public Void visitForLoop(ForLoopTree tree, Void none) {
            dueIf(tree.getCondition() != null && hasBound(tree.getCondition()), "9", tree);
            return super.visitForLoop(tree, none);
        }

        @Override
        public Void visitWhileLoop(WhileLoopTree tree, Void none) {
            dueIf(hasBound(tree.getCondition()), "9", tree);
            return super.visitWhileLoop(tree, none);
        }

        @Override
        public Void visitDoWhileLoop(DoWhileLoopTree tree, Void none) {
            dueIf(hasBound(tree.getCondition()), "9", tree);
            return super.visitDoWhileLoop(tree, none);
        }

        private static boolean hasBound(ExpressionTree condition) {
            return condition.toString().matches(".*[<>].*");
        }

        // ---- classes and methods

        @Override
        public Void visitClass(ClassTree tree, Void none) {
            TypeElement type = (TypeElement) element();
            boolean isFace = type.toString().equals(FACE);
            classes++;
            int fields = 0;
            for (Tree member : tree.getMembers()) {
                boolean isField = member instanceof VariableTree variable && !variable.getModifiers().getFlags().contains(Modifier.STATIC);
                fields += isField ? 1 : 0;
                dueIf(!(member instanceof BlockTree), "5", tree);
            }
            dueIf(fields <= MOST_FIELDS, "11", tree);
            Set<Modifier> face = Set.of(Modifier.PUBLIC, Modifier.FINAL);
            dueIf(isFace ? type.getModifiers().equals(face) : type.getModifiers().contains(Modifier.STATIC), "1", tree);
            return super.visitClass(tree, none);
        }

        @Override
        public Void visitMethod(MethodTree tree, Void none) {
            Element made = element();
            method = nameOf(made);
            calls.computeIfAbsent(method, key -> new TreeSet<>());
            boolean isOpen = made.getModifiers().contains(Modifier.PUBLIC);
            if (made.getKind() == ElementKind.METHOD) {
                (isOpen ? openNames : privateNames).add(made.getSimpleName().toString());
            }
            dueIf(!isOpen || made.getEnclosingElement().toString().equals(FACE), "1", tree);
            dueIf(tree.getParameters().size() <= MOST_PARAMETERS, "11", tree);
            dueIf(tree.toString().strip().lines().count() <= MOST_LINES, "11", tree);
            super.visitMethod(tree, none);
            method = "";
            return null;
        }

        void dueAtLast() {
            if (classes > MOST_CLASSES) {
                say("rule 11: " + classes + " classes");
            }
            if (openNames.size() != 24) {
                say(openNames.size() + " names of public calls were seen");
            }
            privateNames.retainAll(openNames);
            if (!privateNames.isEmpty()) {
                say("rule 1: private methods bear the names " + privateNames);
            }
            calls.keySet().forEach(name -> deep(name, 1));
        }

        /** Where a method calls itself in the end, it goes deeper than any bound. */
        private boolean deep(String name, int level) {
            if (level > MOST_DEEP) {
                say("rules 8 and 11: too deep, or recursion, at " + name);
                return true;
            }
            for (String callee : calls.getOrDefault(name, Set.of())) {
                if (deep(callee, level + 1)) {
                    return true;
                }
            }
            return false;
        }
    }
}
