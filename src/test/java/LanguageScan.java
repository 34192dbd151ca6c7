import com.sun.source.tree.ArrayAccessTree;
import com.sun.source.tree.AssertTree;
import com.sun.source.tree.AssignmentTree;
import com.sun.source.tree.BinaryTree;
import com.sun.source.tree.BlockTree;
import com.sun.source.tree.ClassTree;
import com.sun.source.tree.CompoundAssignmentTree;
import com.sun.source.tree.DoWhileLoopTree;
import com.sun.source.tree.ExpressionTree;
import com.sun.source.tree.ForLoopTree;
import com.sun.source.tree.IdentifierTree;
import com.sun.source.tree.ImportTree;
import com.sun.source.tree.LambdaExpressionTree;
import com.sun.source.tree.LiteralTree;
import com.sun.source.tree.MemberReferenceTree;
import com.sun.source.tree.MemberSelectTree;
import com.sun.source.tree.MethodInvocationTree;
import com.sun.source.tree.MethodTree;
import com.sun.source.tree.NewArrayTree;
import com.sun.source.tree.NewClassTree;
import com.sun.source.tree.ParenthesizedTree;
import com.sun.source.tree.SynchronizedTree;
import com.sun.source.tree.ThrowTree;
import com.sun.source.tree.Tree;
import com.sun.source.tree.TryTree;
import com.sun.source.tree.TypeCastTree;
import com.sun.source.tree.UnaryTree;
import com.sun.source.tree.VariableTree;
import com.sun.source.tree.WhileLoopTree;
import com.sun.source.util.TreePath;
import com.sun.source.util.TreePathScanner;
import java.util.List;
import java.util.Set;
import javax.lang.model.element.Element;
import javax.lang.model.element.ElementKind;
import javax.lang.model.element.ExecutableElement;
import javax.lang.model.element.Modifier;
import javax.lang.model.element.TypeElement;
import javax.lang.model.element.VariableElement;
import javax.lang.model.type.ArrayType;
import javax.lang.model.type.DeclaredType;
import javax.lang.model.type.TypeMirror;

/** Tells where a source leaves LANGUAGE.md, rule by rule; narrower than the rules here and there. */
final class LanguageScan extends TreePathScanner<Void, Void> {
  private static final int MOST_LINES = 60, MOST_PARAMETERS = 7;
  private static final Set<String> LIBRARY_CLASSES = Set.of("java.lang.String", "java.lang.StringBuilder",
      "java.lang.Integer", "java.util.ArrayList", "java.util.List");
  private static final Set<String> LIBRARY_CALLS = Set.of("System.arraycopy", "Arrays.copyOf", "Arrays.copyOfRange",
      "Arrays.fill", "String.length", "String.charAt", "String.isEmpty", "String.equals", "String.indexOf",
      "String.substring", "String.toCharArray", "StringBuilder.append", "StringBuilder.charAt",
      "StringBuilder.setCharAt", "StringBuilder.setLength", "StringBuilder.deleteCharAt", "StringBuilder.reverse",
      "StringBuilder.length", "StringBuilder.toString", "List.add", "List.get", "List.set", "List.remove", "List.size",
      "List.isEmpty", "List.clear", "ArrayList.add", "ArrayList.get", "ArrayList.set", "ArrayList.remove",
      "ArrayList.size", "ArrayList.isEmpty", "ArrayList.clear", "Object.<init>");
  private static final Set<String> NUMBER_CLASSES = Set.of("java.lang.Math", "java.lang.Integer", "java.lang.Long");
  private static final Set<String> CONSTANT_TYPES = Set.of("int", "long", "boolean", "char", "java.lang.String");
  private static final Set<String> CONSTANT_ROWS = Set.of("int[]", "long[]", "char[]", "byte[]");
  private static final Set<String> HIDDEN_NAMES = Set.of("equals", "hashCode", "toString");

  private final SourceTree source;
  private final List<String> faults;
  private final CallGraph graph;

  LanguageScan(SourceTree source, List<String> faults, CallGraph graph) {
    this.source = source;
    this.faults = faults;
    this.graph = graph;
  }

  private void due(int rule, boolean holds, Tree at) {
    if (!holds) {
      faults.add("rule " + rule + ", line " + source.line(at) + ": " + at.toString().trim().split("\n")[0]);
    }
  }

  private Element here() {
    return source.meaning(getCurrentPath());
  }

  private TypeMirror typeOf(Tree part) {
    return source.type(getCurrentPath(), part);
  }

  private Element enclosingMethod() {
    for (TreePath at = getCurrentPath(); at != null; at = at.getParentPath()) {
      if (at.getLeaf() instanceof MethodTree) {
        return source.meaning(at);
      }
    }
    return null;
  }

  // rule 2: classes

  @Override
  public Void visitClass(ClassTree node, Void none) {
    Tree parent = getCurrentPath().getParentPath().getLeaf();
    boolean isTop = parent == source.unit;
    boolean isStatic = node.getKind() != Tree.Kind.CLASS || node.getModifiers().getFlags().contains(Modifier.STATIC);
    due(2, isTop || parent instanceof ClassTree && isStatic, node);
    for (Tree member : node.getMembers()) {
      due(5, !(member instanceof BlockTree), member);
    }
    return super.visitClass(node, none);
  }

  @Override
  public Void visitNewClass(NewClassTree node, Void none) {
    due(2, node.getClassBody() == null, node);
    Element made = here();
    String home = made == null ? "" : SourceTree.home(made);
    due(4, SourceTree.isOwn(home) || LIBRARY_CLASSES.contains(home), node);
    if (SourceTree.isOwn(home)) {
      graph.addCall(enclosingMethod(), made);
    }
    return super.visitNewClass(node, none);
  }

  @Override
  public Void visitLambdaExpression(LambdaExpressionTree node, Void none) {
    due(2, false, node);
    return null;
  }

  @Override
  public Void visitMemberReference(MemberReferenceTree node, Void none) {
    due(2, false, node);
    return null;
  }

  // rules 3 and 5: types and static fields

  @Override
  public Void visitVariable(VariableTree node, Void none) {
    Element variable = here();
    due(3, isType(variable.asType()), node);
    boolean isConstant = variable.getKind() == ElementKind.ENUM_CONSTANT;
    if (!isConstant && variable.getModifiers().contains(Modifier.STATIC)) {
      String type = variable.asType().toString();
      boolean isRow = CONSTANT_ROWS.contains(type) && isWrittenOut(node.getInitializer());
      due(5, variable.getModifiers().contains(Modifier.FINAL) && (isRow || CONSTANT_TYPES.contains(type)), node);
    }
    return super.visitVariable(node, none);
  }

  private static boolean isWrittenOut(ExpressionTree initializer) {
    return initializer instanceof NewArrayTree row && row.getInitializers() != null;
  }

  private static boolean isType(TypeMirror type) {
    if (type instanceof ArrayType row) {
      TypeMirror item = row.getComponentType();
      boolean isOfRows = item instanceof ArrayType;
      TypeMirror cell = isOfRows ? ((ArrayType) item).getComponentType() : item;
      return cell.getKind().isPrimitive() || !isOfRows && isOwnType(cell);
    }
    return type.getKind().isPrimitive() || isOwnType(type)
        || type instanceof DeclaredType told && LIBRARY_CLASSES.contains(nameOf(told));
  }

  private static boolean isOwnType(TypeMirror type) {
    return type instanceof DeclaredType told && SourceTree.isOwn(nameOf(told));
  }

  private static String nameOf(DeclaredType type) {
    return ((TypeElement) type.asElement()).getQualifiedName().toString();
  }

  // rule 4: the library

  @Override
  public Void visitImport(ImportTree node, Void none) {
    String name = node.getQualifiedIdentifier().toString();
    due(4, Set.of("java.util.Arrays", "java.util.ArrayList", "java.util.List").contains(name), node);
    return null;
  }

  @Override
  public Void visitMethodInvocation(MethodInvocationTree node, Void none) {
    Element called = here();
    String home = called == null ? "" : SourceTree.home(called);
    if (SourceTree.isOwn(home)) {
      graph.addCall(enclosingMethod(), called);
    } else {
      due(4, called instanceof ExecutableElement method && isListed(home, method), node);
    }
    return super.visitMethodInvocation(node, none);
  }

  private static boolean isListed(String home, ExecutableElement method) {
    String name = method.getSimpleName().toString();
    if (NUMBER_CLASSES.contains(home)) {
      boolean isOfWholes = Set.of("int", "long").contains(method.getReturnType().toString());
      return method.getModifiers().contains(Modifier.STATIC) && isOfWholes && !name.endsWith("Exact")
          && method.getParameters().stream().allMatch(p -> Set.of("int", "long").contains(p.asType().toString()));
    }
    return LIBRARY_CALLS.contains(home.substring(home.lastIndexOf('.') + 1) + "." + name);
  }

  @Override
  public Void visitMemberSelect(MemberSelectTree node, Void none) {
    seeField(node);
    return super.visitMemberSelect(node, none);
  }

  @Override
  public Void visitIdentifier(IdentifierTree node, Void none) {
    seeField(node);
    return super.visitIdentifier(node, none);
  }

  /** Of the library's fields there is an array's length, and what the document's own face names. */
  private void seeField(ExpressionTree node) {
    Element field = here();
    if (field instanceof VariableElement && field.getKind() == ElementKind.FIELD) {
      String home = SourceTree.home(field);
      due(4, SourceTree.isOwn(home) || home.equals("Array") || node.toString().equals("Long.MIN_VALUE"), node);
    }
  }

  // rules 5, 6 and 10: statements and signs

  @Override
  public Void visitAssignment(AssignmentTree node, Void none) {
    due(5, !isOfStaticRow(node.getVariable()), node);
    return super.visitAssignment(node, none);
  }

  @Override
  public Void visitCompoundAssignment(CompoundAssignmentTree node, Void none) {
    due(5, !isOfStaticRow(node.getVariable()), node);
    due(10, !isText(typeOf(node.getVariable())), node);
    return super.visitCompoundAssignment(node, none);
  }

  @Override
  public Void visitUnary(UnaryTree node, Void none) {
    due(5, !isOfStaticRow(node.getExpression()), node);
    return super.visitUnary(node, none);
  }

  private boolean isOfStaticRow(ExpressionTree target) {
    if (!(target instanceof ArrayAccessTree item)) {
      return false;
    }
    Element row = source.meaning(new TreePath(new TreePath(getCurrentPath(), target), item.getExpression()));
    return row != null && row.getModifiers().contains(Modifier.STATIC);
  }

  @Override
  public Void visitBinary(BinaryTree node, Void none) {
    TypeMirror left = typeOf(node.getLeftOperand()), right = typeOf(node.getRightOperand());
    boolean isSame = node.getKind() == Tree.Kind.EQUAL_TO || node.getKind() == Tree.Kind.NOT_EQUAL_TO;
    due(6, !isSame || !(isText(left) && isText(right)) && !(isBoxed(left) && isBoxed(right)), node);
    due(10, node.getKind() != Tree.Kind.PLUS || !isText(left) && !isText(right), node);
    return super.visitBinary(node, none);
  }

  private static boolean isText(TypeMirror type) {
    return type != null && type.toString().equals("java.lang.String");
  }

  private static boolean isBoxed(TypeMirror type) {
    return type != null && type.toString().equals("java.lang.Integer");
  }

  /** A cast among own classes is fine behind its test; no such cast is needed, so none is let through. */
  @Override
  public Void visitTypeCast(TypeCastTree node, Void none) {
    due(6, typeOf(node.getType()).getKind().isPrimitive(), node);
    return super.visitTypeCast(node, none);
  }

  @Override
  public Void visitThrow(ThrowTree node, Void none) {
    due(6, false, node);
    return super.visitThrow(node, none);
  }

  @Override
  public Void visitTry(TryTree node, Void none) {
    due(6, false, node);
    return super.visitTry(node, none);
  }

  @Override
  public Void visitSynchronized(SynchronizedTree node, Void none) {
    due(6, false, node);
    return super.visitSynchronized(node, none);
  }

  @Override
  public Void visitAssert(AssertTree node, Void none) {
    due(6, false, node);
    return super.visitAssert(node, none);
  }

  // rule 9: loops

  @Override
  public Void visitForLoop(ForLoopTree node, Void none) {
    due(9, node.getCondition() != null && !isAlways(node.getCondition()) && !node.getUpdate().isEmpty(), node);
    return super.visitForLoop(node, none);
  }

  @Override
  public Void visitWhileLoop(WhileLoopTree node, Void none) {
    due(9, !isAlways(node.getCondition()), node);
    return super.visitWhileLoop(node, none);
  }

  @Override
  public Void visitDoWhileLoop(DoWhileLoopTree node, Void none) {
    due(9, !isAlways(node.getCondition()), node);
    return super.visitDoWhileLoop(node, none);
  }

  private static boolean isAlways(ExpressionTree condition) {
    ExpressionTree inside = condition instanceof ParenthesizedTree told ? told.getExpression() : condition;
    return inside instanceof LiteralTree;
  }

  // rule 11, and what of rules 1, 3 and 6 stands in a method's head

  @Override
  public Void visitMethod(MethodTree node, Void none) {
    ExecutableElement method = (ExecutableElement) here();
    graph.add(method);
    addOverridden(method);
    due(11, node.getParameters().size() <= MOST_PARAMETERS && source.lines(node) <= MOST_LINES, node);
    due(6, !HIDDEN_NAMES.contains(method.getSimpleName().toString()), node);
    boolean isPlain = !method.getModifiers().contains(Modifier.SYNCHRONIZED)
        && !method.getModifiers().contains(Modifier.NATIVE) && method.getThrownTypes().isEmpty();
    due(6, isPlain, node);
    String answer = method.getReturnType().toString();
    due(3, answer.equals("void") || isType(method.getReturnType()), node);
    return super.visitMethod(node, none);
  }

  /** Who calls a method of a class may call what stands for it in a class under that. */
  private void addOverridden(ExecutableElement method) {
    TypeMirror above = ((TypeElement) method.getEnclosingElement()).getSuperclass();
    if (above instanceof DeclaredType type && isOwnType(above)) {
      for (Element other : type.asElement().getEnclosedElements()) {
        if (other.getKind() == ElementKind.METHOD && other.getSimpleName().equals(method.getSimpleName())) {
          graph.addCall(other, method);
        }
      }
    }
  }
}
