import com.sun.source.tree.BinaryTree;
import com.sun.source.tree.ClassTree;
import com.sun.source.tree.MethodInvocationTree;
import com.sun.source.tree.NewClassTree;
import com.sun.source.tree.Tree;
import com.sun.source.tree.TypeCastTree;
import com.sun.source.tree.VariableTree;
import com.sun.source.util.TreePath;
import com.sun.source.util.TreePathScanner;
import com.sun.source.util.Trees;
import java.util.Set;
import java.util.TreeSet;
import javax.lang.model.element.Element;
import javax.lang.model.element.ElementKind;
import javax.lang.model.element.Modifier;
import javax.lang.model.type.ArrayType;
import javax.lang.model.type.DeclaredType;
import javax.lang.model.type.TypeMirror;

/** Rules 2 to 5 and 10 of LANGUAGE.md: which types, which part of the library, which classes the class is made of. */
public final class LibraryTest {
    private static final Check CHECK = new Check();
    /** Of what rule 4 leaves, this is all that the class needs. */
    private static final Set<String> LIBRARY = Set.of("java.lang.Math.min", "java.lang.Integer.bitCount",
        "java.lang.Long.bitCount", "java.lang.System.arraycopy");
    private static final Set<String> NUMBERS = Set.of("int", "long", "boolean");
    private static final Set<Tree.Kind> NEVER = Set.of(Tree.Kind.LAMBDA_EXPRESSION, Tree.Kind.MEMBER_REFERENCE,
        Tree.Kind.TRY, Tree.Kind.CATCH, Tree.Kind.THROW, Tree.Kind.SYNCHRONIZED, Tree.Kind.ASSERT, Tree.Kind.ANNOTATION,
        Tree.Kind.IMPORT, Tree.Kind.STRING_LITERAL, Tree.Kind.DOUBLE_LITERAL, Tree.Kind.FLOAT_LITERAL,
        Tree.Kind.NULL_LITERAL);

    private static final class Scanner extends TreePathScanner<Void, Void> {
        private final Trees trees;
        private final Set<String> called = new TreeSet<>();

        Scanner(Trees trees) {
            this.trees = trees;
        }

        private static boolean isOwn(Element element) {
            Element e = element;
            while (e.getEnclosingElement() != null && e.getEnclosingElement().getKind() != ElementKind.PACKAGE) {
                e = e.getEnclosingElement();
            }
            return e.getSimpleName().contentEquals("FacingDoors");
        }

        private static boolean isTaken(TypeMirror type) {
            return NUMBERS.contains(type.toString()) || type instanceof DeclaredType d && isOwn(d.asElement())
                || type instanceof ArrayType a && !(a.getComponentType() instanceof ArrayType)
                    && isTaken(a.getComponentType());
        }

        @Override public Void scan(Tree tree, Void nothing) {
            if (tree != null && NEVER.contains(tree.getKind())) {
                CHECK.same("what may not be there, a " + tree.getKind(), tree.toString(), "");
            }
            return super.scan(tree, nothing);
        }

        @Override public Void visitClass(ClassTree tree, Void nothing) {
            Element e = trees.getElement(getCurrentPath());
            boolean inside = e.getEnclosingElement().getKind() != ElementKind.PACKAGE;
            boolean named = e.getEnclosingElement().getKind().isClass() && tree.getSimpleName().length() > 0;
            CHECK.due(e + " has a name and is no local one", !inside || named ? 1 : 0, 1);
            CHECK.due(e + " is private, static and final", !inside || e.getModifiers().containsAll(
                Set.of(Modifier.PRIVATE, Modifier.STATIC, Modifier.FINAL)) ? 1 : 0, 1);
            return super.visitClass(tree, nothing);
        }

        @Override public Void visitVariable(VariableTree tree, Void nothing) {
            Element e = trees.getElement(getCurrentPath());
            CHECK.due("the type of " + tree, isTaken(e.asType()) ? 1 : 0, 1);
            if (e.getModifiers().contains(Modifier.STATIC)) {
                CHECK.due(tree + " is final", e.getModifiers().contains(Modifier.FINAL) ? 1 : 0, 1);
                CHECK.due(tree + " is written out", tree.getInitializer() != null ? 1 : 0, 1);
            }
            return super.visitVariable(tree, nothing);
        }

        @Override public Void visitMethodInvocation(MethodInvocationTree tree, Void nothing) {
            Element e = trees.getElement(new TreePath(getCurrentPath(), tree.getMethodSelect()));
            boolean constructor = e.getKind() == ElementKind.CONSTRUCTOR;
            if (!isOwn(e) && !constructor) {
                called.add(e.getEnclosingElement() + "." + e.getSimpleName());
            }
            return super.visitMethodInvocation(tree, nothing);
        }

        @Override public Void visitNewClass(NewClassTree tree, Void nothing) {
            CHECK.due(tree + " is of an own class", isOwn(trees.getElement(getCurrentPath())) ? 1 : 0, 1);
            return super.visitNewClass(tree, nothing);
        }

        @Override public Void visitTypeCast(TypeCastTree tree, Void nothing) {
            CHECK.same("a cast, of which none is needed", tree.toString(), "");
            return super.visitTypeCast(tree, nothing);
        }

        @Override public Void visitBinary(BinaryTree tree, Void nothing) {
            CHECK.due("the type of " + tree, isTaken(trees.getTypeMirror(getCurrentPath())) ? 1 : 0, 1);
            return super.visitBinary(tree, nothing);
        }
    }

    public static void main(String[] args) throws Exception {
        Sources.read(Sources.main(), (unit, trees) -> {
            Scanner scanner = new Scanner(trees);
            scanner.scan(unit, null);
            CHECK.same("what is called of the library", scanner.called.toString(), new TreeSet<>(LIBRARY).toString());
        });
        CHECK.end();
    }
}
