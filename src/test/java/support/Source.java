import com.sun.source.tree.ArrayAccessTree;
import com.sun.source.tree.AssertTree;
import com.sun.source.tree.AssignmentTree;
import com.sun.source.tree.BinaryTree;
import com.sun.source.tree.BlockTree;
import com.sun.source.tree.ClassTree;
import com.sun.source.tree.CompilationUnitTree;
import com.sun.source.tree.CompoundAssignmentTree;
import com.sun.source.tree.DoWhileLoopTree;
import com.sun.source.tree.EnhancedForLoopTree;
import com.sun.source.tree.ExpressionTree;
import com.sun.source.tree.ForLoopTree;
import com.sun.source.tree.LambdaExpressionTree;
import com.sun.source.tree.LiteralTree;
import com.sun.source.tree.MemberReferenceTree;
import com.sun.source.tree.MethodInvocationTree;
import com.sun.source.tree.MethodTree;
import com.sun.source.tree.NewArrayTree;
import com.sun.source.tree.NewClassTree;
import com.sun.source.tree.ParenthesizedTree;
import com.sun.source.tree.SynchronizedTree;
import com.sun.source.tree.ThrowTree;
import com.sun.source.tree.Tree;
import com.sun.source.tree.TryTree;
import com.sun.source.tree.TypeCastTree;
import com.sun.source.tree.UnaryTree;
import com.sun.source.tree.VariableTree;
import com.sun.source.tree.WhileLoopTree;
import com.sun.source.util.JavacTask;
import com.sun.source.util.TreePath;
import com.sun.source.util.TreePathScanner;
import com.sun.source.util.Trees;
import java.io.IOException;
import java.nio.file.Path;
import java.util.ArrayList;
import java.util.EnumSet;
import java.util.List;
import java.util.Map;
import java.util.Set;
import java.util.TreeMap;
import java.util.TreeSet;
import javax.lang.model.element.Element;
import javax.lang.model.element.ElementKind;
import javax.lang.model.element.Modifier;
import javax.lang.model.element.VariableElement;
import javax.lang.model.type.TypeKind;
import javax.lang.model.type.TypeMirror;
import javax.tools.JavaCompiler;
import javax.tools.StandardJavaFileManager;
import javax.tools.ToolProvider;

/** What the compiler sees in the class: which types and methods are used, who calls whom, what LANGUAGE.md leaves out. */
final class Source {
  private static final Set<Tree.Kind> COMPARISONS =
      EnumSet.of(Tree.Kind.LESS_THAN, Tree.Kind.LESS_THAN_EQUAL, Tree.Kind.GREATER_THAN, Tree.Kind.GREATER_THAN_EQUAL);

  /** What stands in the source but not in the language, each with its line. */
  final List<String> outside = new ArrayList<>();
  final Set<String> types = new TreeSet<>();
  /** Of the library: Class.method(types). */
  final Set<String> library = new TreeSet<>();
  /** The methods in which something is divided by what is no constant. */
  final Set<String> dividers = new TreeSet<>();
  /** By methods, as Class.method(types): which methods each calls. A class's fields begin in its constructor. */
  final Map<String, Set<String>> calls = new TreeMap<>();
  final Map<String, Long> linesOf = new TreeMap<>();
  /** Where something is made, but for constructors and fields. */
  final Set<String> makers = new TreeSet<>();

  static Source read(Path file) throws IOException {
    JavaCompiler compiler = ToolProvider.getSystemJavaCompiler();
    Source source = new Source();
    try (StandardJavaFileManager files = compiler.getStandardFileManager(null, null, null)) {
      JavacTask task = (JavacTask) compiler.getTask(null, files, null, List.of("-proc:none"), null, files.getJavaFileObjects(file));
      Iterable<? extends CompilationUnitTree> units = task.parse();
      task.analyze();
      for (CompilationUnitTree unit : units) {
        source.new Scanner(unit, Trees.instance(task)).scan(unit, null);
      }
    }
    return source;
  }

  /** How many calls stand open at once at most from that method on, itself counted; a thousand if it comes back to itself. */
  int depth(String method, Set<String> open) {
    if (!open.add(method)) {
      return 1000;
    }
    int most = 0;
    for (String called : calls.getOrDefault(method, Set.of())) {
      most = Math.max(most, depth(called, open));
    }
    open.remove(method);
    return Math.min(1000, most + 1);
  }

  private final class Scanner extends TreePathScanner<Void, Void> {
    private final CompilationUnitTree unit;
    private final Trees trees;

    Scanner(CompilationUnitTree unit, Trees trees) {
      this.unit = unit;
      this.trees = trees;
    }

    private long lineOf(long place) {
      return unit.getLineMap().getLineNumber(place);
    }

    private void leave(String what, Tree tree) {
      outside.add(what + " in line " + lineOf(trees.getSourcePositions().getStartPosition(unit, tree)));
    }

    private TypeMirror typeOf(Tree tree) {
      return trees.getTypeMirror(new TreePath(getCurrentPath(), tree));
    }

    private Element here() {
      return trees.getElement(getCurrentPath());
    }

    private String nameOf(Element method) {
      String name = method.getEnclosingElement().toString() + "." + method;
      return name.replace("StoneHome.StoneHome(", "StoneHome.new(");
    }

    /** The method, or the class whose fields begin here, as its constructor. */
    private String caller() {
      for (TreePath path = getCurrentPath(); path != null; path = path.getParentPath()) {
        Element element = path.getLeaf() instanceof MethodTree ? trees.getElement(path) : null;
        if (element != null) {
          return nameOf(element);
        }
        if (path.getLeaf() instanceof ClassTree) {
          return nameOf(constructorOf(trees.getElement(path)));
        }
      }
      return "";
    }

    private Element constructorOf(Element type) {
      for (Element member : type.getEnclosedElements()) {
        if (member.getKind() == ElementKind.CONSTRUCTOR) {
          return member;
        }
      }
      return type;
    }

    private void addCall(Element method) {
      calls.computeIfAbsent(caller(), c -> new TreeSet<>()).add(nameOf(method));
      if (!method.getEnclosingElement().toString().startsWith("StoneHome")) {
        library.add(nameOf(method));
      }
    }

    @Override
    public Void visitClass(ClassTree tree, Void none) {
      boolean nested = getCurrentPath().getParentPath().getLeaf() instanceof ClassTree;
      boolean top = getCurrentPath().getParentPath().getLeaf() instanceof CompilationUnitTree;
      if (!nested && !top) {
        leave("a local or anonymous class", tree);
      }
      for (Tree member : tree.getMembers()) {
        if (member instanceof BlockTree) {
          leave("an initialiser block", member);
        }
      }
      return super.visitClass(tree, none);
    }

    @Override
    public Void visitMethod(MethodTree tree, Void none) {
      long first = lineOf(trees.getSourcePositions().getStartPosition(unit, tree));
      long last = lineOf(Math.max(0, trees.getSourcePositions().getEndPosition(unit, tree)));
      linesOf.put(nameOf(here()), last - first + 1);
      calls.computeIfAbsent(nameOf(here()), c -> new TreeSet<>());
      if (tree.getReturnType() != null) {
        types.add(String.valueOf(typeOf(tree.getReturnType())));
      }
      return super.visitMethod(tree, none);
    }

    @Override
    public Void visitVariable(VariableTree tree, Void none) {
      Element variable = here();
      types.add(String.valueOf(variable.asType()));
      boolean isField = variable.getKind() == ElementKind.FIELD;
      if (isField && variable.getModifiers().contains(Modifier.STATIC)) {
        visitConstant(tree, variable);
      }
      return super.visitVariable(tree, none);
    }

    private void visitConstant(VariableTree tree, Element constant) {
      String type = constant.asType().toString();
      boolean plain = Set.of("int", "long", "boolean", "char", "java.lang.String").contains(type);
      boolean row = Set.of("int[]", "long[]", "char[]", "byte[]").contains(type)
          && tree.getInitializer() instanceof NewArrayTree made && made.getInitializers() != null;
      if (!constant.getModifiers().contains(Modifier.FINAL) || !plain && !row) {
        leave("a static field that is no constant", tree);
      }
    }

    @Override
    public Void visitMethodInvocation(MethodInvocationTree tree, Void none) {
      Element method = here();
      if (!method.toString().equals("Object()") && !tree.getMethodSelect().toString().equals("super")) {
        addCall(method);
      }
      if (nameOf(method).startsWith("java.lang.String.indexOf") && typeOf(tree.getArguments().get(0)).getKind() != TypeKind.CHAR) {
        leave("indexOf of what is no char", tree);
      }
      return super.visitMethodInvocation(tree, none);
    }

    @Override
    public Void visitNewClass(NewClassTree tree, Void none) {
      addCall(here());
      noteMade();
      return super.visitNewClass(tree, none);
    }

    @Override
    public Void visitNewArray(NewArrayTree tree, Void none) {
      noteMade();
      return super.visitNewArray(tree, none);
    }

    private void noteMade() {
      for (TreePath path = getCurrentPath(); path != null; path = path.getParentPath()) {
        if (path.getLeaf() instanceof MethodTree method && method.getReturnType() != null) {
          makers.add(caller());
        }
      }
    }

    @Override
    public Void visitBinary(BinaryTree tree, Void none) {
      String left = String.valueOf(typeOf(tree.getLeftOperand()));
      String right = String.valueOf(typeOf(tree.getRightOperand()));
      if (left.equals("java.lang.String") || right.equals("java.lang.String")) {
        leave("an operator between texts", tree);
      }
      boolean divides = tree.getKind() == Tree.Kind.DIVIDE || tree.getKind() == Tree.Kind.REMAINDER;
      if (divides && !isKept(tree.getRightOperand())) {
        dividers.add(caller());
      }
      return super.visitBinary(tree, none);
    }

    /** A constant that is not 0. */
    private boolean isKept(ExpressionTree divisor) {
      if (divisor instanceof LiteralTree) {
        return !divisor.toString().equals("0");
      }
      Element element = trees.getElement(new TreePath(getCurrentPath(), divisor));
      return element instanceof VariableElement constant
          && constant.getConstantValue() instanceof Integer value && value != 0;
    }

    @Override
    public Void visitAssignment(AssignmentTree tree, Void none) {
      lookAtTarget(tree.getVariable());
      return super.visitAssignment(tree, none);
    }

    @Override
    public Void visitCompoundAssignment(CompoundAssignmentTree tree, Void none) {
      lookAtTarget(tree.getVariable());
      String kind = tree.getKind().toString();
      if (kind.startsWith("DIVIDE") || kind.startsWith("REMAINDER")) {
        leave("a division by assignment", tree);
      }
      return super.visitCompoundAssignment(tree, none);
    }

    @Override
    public Void visitUnary(UnaryTree tree, Void none) {
      String kind = tree.getKind().toString();
      if (kind.endsWith("INCREMENT") || kind.endsWith("DECREMENT")) {
        lookAtTarget(tree.getExpression());
      }
      return super.visitUnary(tree, none);
    }

    /** A row that is a constant is never changed. */
    private void lookAtTarget(ExpressionTree target) {
      if (target instanceof ArrayAccessTree access) {
        Element row = trees.getElement(new TreePath(getCurrentPath(), access.getExpression()));
        if (row != null && row.getModifiers().contains(Modifier.STATIC)) {
          leave("a change of a constant", target);
        }
      }
    }

    @Override
    public Void visitTypeCast(TypeCastTree tree, Void none) {
      if (!typeOf(tree.getType()).getKind().isPrimitive()) {
        leave("a cast to a class", tree);
      }
      return super.visitTypeCast(tree, none);
    }

    @Override
    public Void visitForLoop(ForLoopTree tree, Void none) {
      lookAtEnd(tree.getCondition(), tree);
      return super.visitForLoop(tree, none);
    }

    @Override
    public Void visitWhileLoop(WhileLoopTree tree, Void none) {
      lookAtEnd(tree.getCondition(), tree);
      return super.visitWhileLoop(tree, none);
    }

    @Override
    public Void visitDoWhileLoop(DoWhileLoopTree tree, Void none) {
      lookAtEnd(tree.getCondition(), tree);
      return super.visitDoWhileLoop(tree, none);
    }

    /** Its end is a comparison of numbers, by itself or the first of those that must all hold. */
    private void lookAtEnd(ExpressionTree condition, Tree loop) {
      ExpressionTree first = condition;
      while (first instanceof ParenthesizedTree || first instanceof BinaryTree && first.getKind() == Tree.Kind.CONDITIONAL_AND) {
        first = first instanceof ParenthesizedTree inner ? inner.getExpression() : ((BinaryTree) first).getLeftOperand();
      }
      boolean ends = first != null && COMPARISONS.contains(first.getKind());
      if (!ends) {
        leave("a loop whose end is not seen", loop);
      }
    }

    @Override
    public Void visitEnhancedForLoop(EnhancedForLoopTree tree, Void none) {
      if (typeOf(tree.getExpression()).getKind() != TypeKind.ARRAY) {
        leave("a loop over what is no array", tree);
      }
      return super.visitEnhancedForLoop(tree, none);
    }

    @Override
    public Void visitLambdaExpression(LambdaExpressionTree tree, Void none) {
      leave("a lambda", tree);
      return super.visitLambdaExpression(tree, none);
    }

    @Override
    public Void visitMemberReference(MemberReferenceTree tree, Void none) {
      leave("a method reference", tree);
      return super.visitMemberReference(tree, none);
    }

    @Override
    public Void visitThrow(ThrowTree tree, Void none) {
      leave("throw", tree);
      return super.visitThrow(tree, none);
    }

    @Override
    public Void visitTry(TryTree tree, Void none) {
      leave("try", tree);
      return super.visitTry(tree, none);
    }

    @Override
    public Void visitSynchronized(SynchronizedTree tree, Void none) {
      leave("synchronized", tree);
      return super.visitSynchronized(tree, none);
    }

    @Override
    public Void visitAssert(AssertTree tree, Void none) {
      leave("assert", tree);
      return super.visitAssert(tree, none);
    }
  }
}
