import com.sun.source.tree.AssertTree;
import com.sun.source.tree.BinaryTree;
import com.sun.source.tree.ClassTree;
import com.sun.source.tree.CompilationUnitTree;
import com.sun.source.tree.ExpressionTree;
import com.sun.source.tree.IdentifierTree;
import com.sun.source.tree.LambdaExpressionTree;
import com.sun.source.tree.LiteralTree;
import com.sun.source.tree.MemberReferenceTree;
import com.sun.source.tree.MemberSelectTree;
import com.sun.source.tree.MethodInvocationTree;
import com.sun.source.tree.MethodTree;
import com.sun.source.tree.NewArrayTree;
import com.sun.source.tree.NewClassTree;
import com.sun.source.tree.SynchronizedTree;
import com.sun.source.tree.ThrowTree;
import com.sun.source.tree.Tree;
import com.sun.source.tree.TryTree;
import com.sun.source.tree.TypeCastTree;
import com.sun.source.tree.VariableTree;
import com.sun.source.util.JavacTask;
import com.sun.source.util.SourcePositions;
import com.sun.source.util.TreePathScanner;
import com.sun.source.util.Trees;
import java.nio.charset.StandardCharsets;
import java.nio.file.Files;
import java.nio.file.Path;
import java.util.HashMap;
import java.util.HashSet;
import java.util.List;
import java.util.Map;
import java.util.Set;
import javax.lang.model.element.Element;
import javax.lang.model.element.ElementKind;
import javax.lang.model.element.Modifier;
import javax.lang.model.element.TypeElement;
import javax.lang.model.type.ArrayType;
import javax.lang.model.type.TypeKind;
import javax.lang.model.type.TypeMirror;
import javax.tools.JavaCompiler;
import javax.tools.StandardJavaFileManager;
import javax.tools.ToolProvider;

/**
 * LANGUAGE.md's rules that can be seen in the text of the program. It asks more than they do where
 * the program needs less: no catch, no instanceof, no recursion, and of the library only CALLS.
 */
public final class LanguageTest {
    private static final Path PROGRAM = Path.of("src/main/java/CraneCampaign.java");
    private static final Set<String> CALLS = Set.of("java.lang.Math.min", "java.lang.Math.max",
            "java.lang.Math.abs", "java.lang.System.arraycopy");
    private static final Set<String> THROWN = Set.of("IllegalStateException", "IllegalArgumentException",
            "IndexOutOfBoundsException");
    private static final int DEEPEST = 8;
    private static final int LONGEST = 60;
    private static final int MOST_PARAMETERS = 7;
    private static final int MOST_FIELDS = 20;
    private static final int MOST_CLASSES = 12;

    public static void main(String[] args) throws Exception {
        checkLetters();
        JavaCompiler compiler = ToolProvider.getSystemJavaCompiler();
        try (StandardJavaFileManager files = compiler.getStandardFileManager(null, null, null)) {
            JavacTask task = (JavacTask) compiler.getTask(null, files, null, List.of("--release", "17"), null,
                    files.getJavaFileObjects(PROGRAM));
            CompilationUnitTree unit = task.parse().iterator().next();
            task.analyze();
            Reader reader = new Reader(Trees.instance(task), unit);
            reader.scan(unit, null);
            Check.dueTrue("no package, no import", unit.getPackage() == null && unit.getImports().isEmpty());
            Check.due("classes outside of others", 1, unit.getTypeDecls().size());
            Check.dueTrue("rule 11: at most 12 classes: " + reader.classes, reader.classes <= MOST_CLASSES);
            checkDepth(reader.callsOf);
        }
        Check.finish();
    }

    private static void checkLetters() throws Exception {
        String text = Files.readString(PROGRAM, StandardCharsets.ISO_8859_1);
        for (int i = 0; i < text.length(); i++) {
            if (text.charAt(i) < 1 || text.charAt(i) > 127) {
                Check.dueTrue("rule 4: the sign at " + i + " is 1 to 127", false);
            }
        }
    }

    private static void checkDepth(Map<Element, Set<Element>> callsOf) {
        int deepest = 0;
        for (Element method : callsOf.keySet()) {
            deepest = Math.max(deepest, depthOf(method, callsOf, 1));
        }
        Check.dueTrue("rule 11: calls go at most 8 deep, found " + deepest, deepest <= DEEPEST);
        Check.dueTrue("the calls are seen at all", deepest > 1);
    }

    // A recursion would be told as too deep: nothing is looked at behind the depth that is allowed.
    private static int depthOf(Element method, Map<Element, Set<Element>> callsOf, int depth) {
        int deepest = depth;
        if (depth > DEEPEST) {
            return deepest;
        }
        for (Element called : callsOf.getOrDefault(method, Set.of())) {
            deepest = Math.max(deepest, depthOf(called, callsOf, depth + 1));
        }
        return deepest;
    }

    /** Reads the whole program, and tells each place that the rules leave out. */
    private static final class Reader extends TreePathScanner<Void, Void> {
        final Map<Element, Set<Element>> callsOf = new HashMap<>();
        int classes = 0;
        private final Trees trees;
        private final CompilationUnitTree unit;
        private MethodTree method;

        Reader(Trees trees, CompilationUnitTree unit) {
            this.trees = trees;
            this.unit = unit;
        }

        private void due(String rule, Tree where, boolean holds) {
            Check.dueTrue(rule + ", line " + lineAt(startOf(where)), holds);
        }

        private long startOf(Tree tree) {
            SourcePositions positions = trees.getSourcePositions();
            return positions.getStartPosition(unit, tree);
        }

        private long lineAt(long position) {
            return position < 0 ? 0 : unit.getLineMap().getLineNumber(position);
        }

        private Element here() {
            return trees.getElement(getCurrentPath());
        }

        private static boolean isOurs(Element element) {
            for (Element e = element; e != null; e = e.getEnclosingElement()) {
                if (e instanceof TypeElement && ((TypeElement) e).getQualifiedName().contentEquals("CraneCampaign")) {
                    return true;
                }
            }
            return false;
        }

        @Override
        public Void visitClass(ClassTree tree, Void none) {
            classes++;
            int fields = 0;
            for (Tree member : tree.getMembers()) {
                if (member instanceof VariableTree
                        && !((VariableTree) member).getModifiers().getFlags().contains(Modifier.STATIC)) {
                    fields++;
                }
                due("rule 5: no static initialiser", member, member.getKind() != Tree.Kind.BLOCK);
            }
            due("rule 11: at most 20 fields", tree, fields <= MOST_FIELDS);
            due("rule 2: a class, and nothing of the library above it", tree, tree.getExtendsClause() == null
                    && tree.getImplementsClause().isEmpty() && !tree.getSimpleName().contentEquals(""));
            return super.visitClass(tree, none);
        }

        @Override
        public Void visitMethod(MethodTree tree, Void none) {
            method = tree;
            callsOf.put(here(), new HashSet<>());
            long end = trees.getSourcePositions().getEndPosition(unit, tree);
            due("rule 11: at most 60 lines", tree, lineAt(end) - lineAt(startOf(tree)) < LONGEST);
            due("rule 11: at most 7 parameters", tree, tree.getParameters().size() <= MOST_PARAMETERS);
            String name = tree.getName().toString();
            due("rule 6: no method of Object anew", tree,
                    !name.equals("equals") && !name.equals("hashCode") && !name.equals("toString"));
            super.visitMethod(tree, none);
            method = null;
            return null;
        }

        @Override
        public Void visitMethodInvocation(MethodInvocationTree tree, Void none) {
            Element called = here();
            String name = called.getEnclosingElement() + "." + called.getSimpleName();
            boolean isSuper = tree.getMethodSelect().toString().equals("super");
            due("rule 4: no call of " + name, tree, isOurs(called) || isSuper || CALLS.contains(name));
            addCall(called);
            return super.visitMethodInvocation(tree, none);
        }

        @Override
        public Void visitNewClass(NewClassTree tree, Void none) {
            Element made = here();
            boolean isThrown = getCurrentPath().getParentPath().getLeaf() instanceof ThrowTree;
            due("rule 4: nothing new of the library", tree, isOurs(made) || isThrown);
            due("rule 2: no anonymous class", tree, tree.getClassBody() == null);
            addCall(made);
            return super.visitNewClass(tree, none);
        }

        private void addCall(Element called) {
            if (method != null && isOurs(called)) {
                callsOf.get(trees.getElement(trees.getPath(unit, method))).add(called);
            }
        }

        @Override
        public Void visitThrow(ThrowTree tree, Void none) {
            ExpressionTree thrown = tree.getExpression();
            boolean isPlain = thrown instanceof NewClassTree
                    && THROWN.contains(((NewClassTree) thrown).getIdentifier().toString());
            due("rule 6: throw new E(..), E one of " + THROWN, tree, isPlain);
            if (isPlain) {
                List<? extends ExpressionTree> words = ((NewClassTree) thrown).getArguments();
                due("rule 6: a written text", tree, words.isEmpty()
                        || words.size() == 1 && words.get(0).getKind() == Tree.Kind.STRING_LITERAL);
            }
            due("rule 6: no throw in a constructor", tree,
                    method != null && !method.getName().contentEquals("<init>"));
            return super.visitThrow(tree, none);
        }

        @Override
        public Void visitVariable(VariableTree tree, Void none) {
            Element variable = here();
            TypeMirror type = variable.asType();
            due("rule 3: no type " + type, tree, isType(type));
            if (variable.getKind() == ElementKind.FIELD && variable.getModifiers().contains(Modifier.STATIC)) {
                boolean isWritten = tree.getInitializer() instanceof LiteralTree
                        || tree.getInitializer() instanceof NewArrayTree
                        || ((javax.lang.model.element.VariableElement) variable).getConstantValue() != null;
                due("rule 5: a static field is final, and written out", tree,
                        variable.getModifiers().contains(Modifier.FINAL) && isWritten);
            }
            return super.visitVariable(tree, none);
        }

        private static boolean isType(TypeMirror type) {
            if (type.getKind() == TypeKind.ARRAY) {
                TypeMirror part = ((ArrayType) type).getComponentType();
                return part.getKind() != TypeKind.ARRAY && isType(part);
            }
            if (type.getKind().isPrimitive()) {
                return true;
            }
            return type.toString().startsWith("CraneCampaign.");
        }

        @Override
        public Void visitIdentifier(IdentifierTree tree, Void none) {
            checkNoField(tree);
            return super.visitIdentifier(tree, none);
        }

        @Override
        public Void visitMemberSelect(MemberSelectTree tree, Void none) {
            checkNoField(tree);
            return super.visitMemberSelect(tree, none);
        }

        private void checkNoField(ExpressionTree tree) {
            Element named = here();
            boolean isLength = named != null && named.getSimpleName().contentEquals("length");
            if (named != null && named.getKind() == ElementKind.FIELD && !isLength) {
                due("rule 4: no field of the library: " + tree, tree, isOurs(named));
            }
        }

        @Override
        public Void visitBinary(BinaryTree tree, Void none) {
            TypeMirror type = trees.getTypeMirror(getCurrentPath());
            due("rule 10: no text joined by +", tree, type.getKind().isPrimitive());
            return super.visitBinary(tree, none);
        }

        @Override
        public Void visitTypeCast(TypeCastTree tree, Void none) {
            due("rule 6: a cast of numbers alone", tree, trees.getTypeMirror(getCurrentPath()).getKind().isPrimitive());
            return super.visitTypeCast(tree, none);
        }

        @Override
        public Void visitTry(TryTree tree, Void none) {
            due("rule 6: no try", tree, false);
            return super.visitTry(tree, none);
        }

        @Override
        public Void visitLambdaExpression(LambdaExpressionTree tree, Void none) {
            due("rule 2: no lambda", tree, false);
            return super.visitLambdaExpression(tree, none);
        }

        @Override
        public Void visitMemberReference(MemberReferenceTree tree, Void none) {
            due("rule 2: no method reference", tree, false);
            return super.visitMemberReference(tree, none);
        }

        @Override
        public Void visitAssert(AssertTree tree, Void none) {
            due("rule 6: no assert", tree, false);
            return super.visitAssert(tree, none);
        }

        @Override
        public Void visitSynchronized(SynchronizedTree tree, Void none) {
            due("rule 6: no synchronized", tree, false);
            return super.visitSynchronized(tree, none);
        }
    }
}
