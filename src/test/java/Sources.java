import com.sun.source.tree.CompilationUnitTree;
import com.sun.source.util.JavacTask;
import com.sun.source.util.Trees;
import java.io.File;
import java.io.IOException;
import java.util.ArrayList;
import java.util.List;
import javax.tools.JavaCompiler;
import javax.tools.StandardJavaFileManager;
import javax.tools.ToolProvider;

/** The sources as javac reads them, for tests that look at code; they are run from the project's folder. */
final class Sources {
    private static final File MAIN = new File("src/main/java/FacingDoors.java"), TESTS = new File("src/test/java");

    private Sources() {
    }

    /** What is done with a file that has been read. */
    interface Reading {
        void of(CompilationUnitTree unit, Trees trees);
    }

    static List<File> main() {
        return List.of(MAIN);
    }

    static List<File> all() {
        List<File> files = new ArrayList<>(main());
        File[] tests = TESTS.listFiles((folder, name) -> name.endsWith(".java"));
        files.addAll(tests == null ? List.of() : List.of(tests));
        return files;
    }

    static void read(List<File> sources, Reading reading) throws IOException {
        JavaCompiler javac = ToolProvider.getSystemJavaCompiler();
        try (StandardJavaFileManager files = javac.getStandardFileManager(null, null, null)) {
            JavacTask task = (JavacTask) javac.getTask(null, files, null, List.of("-proc:none"), null,
                files.getJavaFileObjectsFromFiles(sources));
            Iterable<? extends CompilationUnitTree> units = task.parse();
            task.analyze();
            for (CompilationUnitTree unit : units) {
                reading.of(unit, Trees.instance(task));
            }
        }
    }
}
