import com.sun.source.tree.MethodInvocationTree;
import com.sun.source.tree.MethodTree;
import com.sun.source.tree.NewClassTree;
import com.sun.source.util.TreePath;
import com.sun.source.util.TreePathScanner;
import com.sun.source.util.Trees;
import java.util.ArrayList;
import java.util.LinkedHashMap;
import java.util.LinkedHashSet;
import java.util.List;
import java.util.Map;
import java.util.Set;
import javax.lang.model.element.Element;
import javax.lang.model.element.Modifier;

/** Rules 8 and 11 of LANGUAGE.md: who calls whom, eight deep at most, and that TURN alone recurs. */
public final class DepthTest {
    private static final Check CHECK = new Check();
    private static final Map<Element, Set<Element>> CALLS = new LinkedHashMap<>();
    private static final Set<String> RECUR = new LinkedHashSet<>();

    private static final class CallScanner extends TreePathScanner<Void, Element> {
        private final Trees trees;

        CallScanner(Trees trees) {
            this.trees = trees;
        }

        private void note(Element from, TreePath called) {
            if (from != null) {
                CALLS.get(from).add(trees.getElement(called));
            }
        }

        @Override public Void visitMethod(MethodTree method, Element outer) {
            Element here = trees.getElement(getCurrentPath());
            CALLS.putIfAbsent(here, new LinkedHashSet<>());
            return super.visitMethod(method, here);
        }

        @Override public Void visitMethodInvocation(MethodInvocationTree call, Element from) {
            note(from, new TreePath(getCurrentPath(), call.getMethodSelect()));
            return super.visitMethodInvocation(call, from);
        }

        @Override public Void visitNewClass(NewClassTree made, Element from) {
            note(from, getCurrentPath());
            return super.visitNewClass(made, from);
        }
    }

    /** The longest chain of own methods from here on, each once. */
    private static List<Element> longest(Element from, List<Element> above) {
        List<Element> best = List.of();
        above.add(from);
        for (Element next : CALLS.get(from)) {
            if (above.contains(next)) {
                RECUR.add(next.getSimpleName().toString());
            } else if (CALLS.containsKey(next)) {
                List<Element> chain = longest(next, above);
                best = chain.size() > best.size() ? chain : best;
            }
        }
        above.remove(above.size() - 1);
        List<Element> all = new ArrayList<>(best);
        all.add(0, from);
        return all;
    }

    public static void main(String[] args) throws Exception {
        Sources.read(Sources.main(), (unit, trees) -> new CallScanner(trees).scan(unit, null));
        int faces = 0;
        for (Element method : CALLS.keySet()) {
            if (method.getModifiers().contains(Modifier.PUBLIC)) {
                List<Element> chain = longest(method, new ArrayList<>());
                CHECK.due(chain + " is eight deep at most", chain.size() <= 8 ? 1 : 0, 1);
                faces++;
            }
        }
        CHECK.due("the face's methods and its constructor", faces, 28);
        CHECK.same("what recurs", RECUR.toString(), "[choose]");
        CHECK.end();
    }
}
