import com.sun.source.tree.CompilationUnitTree;
import com.sun.source.tree.Tree;
import com.sun.source.util.JavacTask;
import com.sun.source.util.SourcePositions;
import com.sun.source.util.TreeScanner;
import com.sun.source.util.Trees;
import java.io.IOException;
import java.nio.file.Path;
import javax.tools.JavaCompiler;
import javax.tools.ToolProvider;

/** A way through the tree of one source file, that tells which rule of LANGUAGE.md is broken where. */
abstract class SourceRules extends TreeScanner<Void, Void> {
    private CompilationUnitTree unit;
    private SourcePositions places;

    final void scanFile(String name) throws IOException {
        JavaCompiler compiler = ToolProvider.getSystemJavaCompiler();
        var files = compiler.getStandardFileManager(null, null, null);
        var sources = files.getJavaFileObjects(Path.of(name));
        JavacTask task = (JavacTask) compiler.getTask(null, files, null, null, null, sources);
        unit = task.parse().iterator().next();
        places = Trees.instance(task).getSourcePositions();
        scan(unit, null);
    }

    final CompilationUnitTree unit() {
        return unit;
    }

    final void rule(int number, Tree tree, String what, boolean kept) {
        Bench.due("rule " + number + ", line " + firstLine(tree) + ": " + what,
                kept ? "kept" : "broken", "kept");
    }

    final long lines(Tree tree) {
        return lineAt(places.getEndPosition(unit, tree)) - firstLine(tree) + 1;
    }

    private long firstLine(Tree tree) {
        return lineAt(places.getStartPosition(unit, tree));
    }

    private long lineAt(long place) {
        return unit.getLineMap().getLineNumber(Math.max(place, 0));
    }

    static String simpleName(Tree type) {
        String name = type.toString();
        return name.substring(name.lastIndexOf('.') + 1);
    }
}
