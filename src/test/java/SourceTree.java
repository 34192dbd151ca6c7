import com.sun.source.tree.CompilationUnitTree;
import com.sun.source.tree.Tree;
import com.sun.source.util.JavacTask;
import com.sun.source.util.TreePath;
import com.sun.source.util.Trees;
import java.io.IOException;
import java.nio.file.Path;
import java.util.List;
import javax.lang.model.element.Element;
import javax.lang.model.element.TypeElement;
import javax.lang.model.type.TypeMirror;
import javax.tools.Diagnostic;
import javax.tools.DiagnosticCollector;
import javax.tools.JavaCompiler;
import javax.tools.JavaFileObject;
import javax.tools.StandardJavaFileManager;
import javax.tools.ToolProvider;

/** A source file as javac itself reads it: its tree, and what each name in it stands for. */
final class SourceTree {
  final CompilationUnitTree unit;
  final boolean compiles;
  private final Trees trees;

  SourceTree(Path file) throws IOException {
    JavaCompiler javac = ToolProvider.getSystemJavaCompiler();
    StandardJavaFileManager files = javac.getStandardFileManager(null, null, null);
    DiagnosticCollector<JavaFileObject> said = new DiagnosticCollector<>();
    JavacTask task = (JavacTask) javac.getTask(null, files, said, List.of("-proc:none"), null,
        files.getJavaFileObjects(file));
    unit = task.parse().iterator().next();
    task.analyze();
    trees = Trees.instance(task);
    compiles = said.getDiagnostics().stream().noneMatch(d -> d.getKind() == Diagnostic.Kind.ERROR);
  }

  Element meaning(TreePath path) {
    return trees.getElement(path);
  }

  TypeMirror type(TreePath path, Tree part) {
    return trees.getTypeMirror(new TreePath(path, part));
  }

  long line(Tree tree) {
    return unit.getLineMap().getLineNumber(trees.getSourcePositions().getStartPosition(unit, tree));
  }

  long lines(Tree tree) {
    long end = trees.getSourcePositions().getEndPosition(unit, tree);
    return unit.getLineMap().getLineNumber(end) - line(tree) + 1;
  }

  /** The class in which something stands by its full name; empty if it stands in none. */
  static String home(Element element) {
    Element at = element.getEnclosingElement();
    while (at != null && !(at instanceof TypeElement)) {
      at = at.getEnclosingElement();
    }
    return at == null ? "" : ((TypeElement) at).getQualifiedName().toString();
  }

  static boolean isOwn(String className) {
    return className.equals("HoopYard") || className.startsWith("HoopYard.");
  }
}
