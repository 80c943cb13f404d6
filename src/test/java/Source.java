import com.sun.source.tree.CompilationUnitTree;
import com.sun.source.tree.MethodTree;
import com.sun.source.tree.Tree;
import com.sun.source.util.JavacTask;
import com.sun.source.util.TreePath;
import com.sun.source.util.TreePathScanner;
import com.sun.source.util.Trees;
import java.io.IOException;
import java.nio.charset.StandardCharsets;
import java.nio.file.Files;
import java.nio.file.Path;
import java.util.ArrayList;
import java.util.List;
import javax.lang.model.element.Element;
import javax.tools.JavaCompiler;
import javax.tools.StandardJavaFileManager;
import javax.tools.ToolProvider;

/** The program's source, as the compiler reads it: every part of it, in its order. */
final class Source {
    private final String text;
    private final CompilationUnitTree unit;
    private final Trees trees;
    private final List<TreePath> parts = new ArrayList<>();

    Source(Path file) throws IOException {
        text = Files.readString(file);
        JavaCompiler compiler = ToolProvider.getSystemJavaCompiler();
        try (StandardJavaFileManager files = compiler.getStandardFileManager(null, null, StandardCharsets.UTF_8)) {
            List<String> options = List.of("--release", "17", "-proc:none");
            JavacTask task = (JavacTask) compiler.getTask(null, files, null, options, null,
                files.getJavaFileObjects(file));
            unit = task.parse().iterator().next();
            task.analyze();
            trees = Trees.instance(task);
            gather();
        }
    }

    private void gather() {
        new TreePathScanner<Void, Void>() {
            @Override
            public Void scan(Tree tree, Void none) {
                if (tree != null && isWritten(tree)) {
                    parts.add(new TreePath(getCurrentPath(), tree));
                }
                return super.scan(tree, none);
            }
        }.scan(new TreePath(unit), null);
    }

    /** The compiler adds constructors and their calls of super() that stand nowhere in the file. */
    private boolean isWritten(Tree tree) {
        return trees.getSourcePositions().getEndPosition(unit, tree) >= 0;
    }

    String text() {
        return text;
    }

    CompilationUnitTree unit() {
        return unit;
    }

    List<TreePath> parts() {
        return parts;
    }

    <T extends Tree> List<T> all(Class<T> type) {
        List<T> found = new ArrayList<>();
        for (TreePath part : parts) {
            if (type.isInstance(part.getLeaf())) {
                found.add(type.cast(part.getLeaf()));
            }
        }
        return found;
    }

    /** What a name, a call or a declaration there stands for. */
    Element named(TreePath part) {
        return trees.getElement(part);
    }

    String typeOf(TreePath part) {
        return String.valueOf(trees.getTypeMirror(part));
    }

    /** The nearest part around this one that is of the type, or null. */
    static <T extends Tree> T around(TreePath part, Class<T> type) {
        for (TreePath outer = part.getParentPath(); outer != null; outer = outer.getParentPath()) {
            if (type.isInstance(outer.getLeaf())) {
                return type.cast(outer.getLeaf());
            }
        }
        return null;
    }

    int linesOf(MethodTree method) {
        long from = trees.getSourcePositions().getStartPosition(unit, method);
        long to = trees.getSourcePositions().getEndPosition(unit, method);
        return (int) (unit.getLineMap().getLineNumber(to) - unit.getLineMap().getLineNumber(from) + 1);
    }
}
