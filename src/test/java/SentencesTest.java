import com.sun.source.tree.BinaryTree;
import com.sun.source.tree.ExpressionTree;
import com.sun.source.tree.LiteralTree;
import com.sun.source.tree.MemberSelectTree;
import com.sun.source.tree.MethodInvocationTree;
import com.sun.source.util.TreePath;
import com.sun.source.util.TreePathScanner;
import com.sun.source.util.Trees;
import java.nio.file.Files;
import java.nio.file.Path;
import java.util.ArrayList;
import java.util.List;
import javax.lang.model.element.VariableElement;

/** No word of the document without a test: each stands in a sentence that a test says, or promises nothing. */
public final class SentencesTest {
    private static final Check CHECK = new Check();
    private static final Path DOCUMENT = Path.of("../shared/DOC.md");
    /** Headings, and marks of where a part begins and ends. */
    private static final String FRAME = "## Promise [0-9]+: [a-zA-Z]+|## (The public face|Terms|Not promised)"
        + "|```(java|text)?|======== [0-9]";
    /** What no call can answer to. */
    private static final String[] PROMISE_NOTHING = {
        "How the state is held inside the object is free, as are the speed of each call, the text of toString and the "
            + "behaviour of equals and hashCode.",
        "Use of one object from several threads at once is not promised to be safe.",
        "Nothing is promised beyond the answers and state changes described above, and nothing about an object after its "
            + "512th call.",
    };

    private static final class SaysScanner extends TreePathScanner<Void, List<String>> {
        private final Trees trees;

        SaysScanner(Trees trees) {
            this.trees = trees;
        }

        /** The words of a constant: written out, joined, or by a name; "" if they are anything else. */
        private String words(ExpressionTree tree, TreePath above) {
            TreePath path = new TreePath(above, tree);
            if (tree instanceof LiteralTree literal) {
                return String.valueOf(literal.getValue());
            }
            if (tree instanceof BinaryTree joined) {
                return words(joined.getLeftOperand(), path) + words(joined.getRightOperand(), path);
            }
            boolean named = trees.getElement(path) instanceof VariableElement v && v.getConstantValue() != null;
            return named ? String.valueOf(((VariableElement) trees.getElement(path)).getConstantValue()) : "";
        }

        @Override public Void visitMethodInvocation(MethodInvocationTree call, List<String> said) {
            if (call.getMethodSelect() instanceof MemberSelectTree select
                && select.getIdentifier().contentEquals("says")) {
                said.add(words(call.getArguments().get(0), getCurrentPath()));
            }
            return super.visitMethodInvocation(call, said);
        }
    }

    private static void strike(StringBuilder left, String document, String words) {
        for (int at = document.indexOf(words); at >= 0; at = document.indexOf(words, at + 1)) {
            left.replace(at, at + words.length(), "\0".repeat(words.length()));
        }
    }

    public static void main(String[] args) throws Exception {
        if (!Files.isReadable(DOCUMENT)) {
            System.out.println(DOCUMENT + " is not there: its words are not looked up");
            return;
        }
        String document = Files.readString(DOCUMENT).replaceAll("\\s+", " ");
        StringBuilder left = new StringBuilder(document);
        List<String> said = new ArrayList<>();
        Sources.read(Sources.all(), (unit, trees) -> new SaysScanner(trees).scan(unit, said));
        CHECK.due("many sentences are said", said.size() > 100 ? 1 : 0, 1);
        for (String words : said) {
            CHECK.due("a test says words that can be read: '" + words + "'", words.isEmpty() ? 1 : 0, 0);
            if (!words.isEmpty()) {
                strike(left, document, words);
            }
        }
        for (String words : PROMISE_NOTHING) {
            CHECK.due("the document has '" + words + "'", document.contains(words) ? 1 : 0, 1);
            strike(left, document, words);
        }
        for (String piece : left.toString().replaceAll(FRAME, "\0").split("\0+")) {
            CHECK.same("words that no test says", piece.replaceAll("^[ .,;:()]+|[ .,;:()]+$", ""), "");
        }
        CHECK.end();
    }
}
