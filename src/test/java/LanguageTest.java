import com.sun.source.tree.AssertTree;
import com.sun.source.tree.BinaryTree;
import com.sun.source.tree.ClassTree;
import com.sun.source.tree.CompilationUnitTree;
import com.sun.source.tree.ExpressionTree;
import com.sun.source.tree.ForLoopTree;
import com.sun.source.tree.ImportTree;
import com.sun.source.tree.InstanceOfTree;
import com.sun.source.tree.LambdaExpressionTree;
import com.sun.source.tree.MemberReferenceTree;
import com.sun.source.tree.MethodInvocationTree;
import com.sun.source.tree.MethodTree;
import com.sun.source.tree.NewArrayTree;
import com.sun.source.tree.NewClassTree;
import com.sun.source.tree.ParameterizedTypeTree;
import com.sun.source.tree.SynchronizedTree;
import com.sun.source.tree.ThrowTree;
import com.sun.source.tree.Tree;
import com.sun.source.tree.TryTree;
import com.sun.source.tree.TypeCastTree;
import com.sun.source.tree.VariableTree;
import com.sun.source.util.JavacTask;
import com.sun.source.util.TreePath;
import com.sun.source.util.TreePathScanner;
import com.sun.source.util.Trees;
import java.io.IOException;
import java.nio.file.Files;
import java.nio.file.Path;
import java.util.EnumSet;
import java.util.LinkedHashMap;
import java.util.LinkedHashSet;
import java.util.List;
import java.util.Map;
import java.util.Set;
import javax.lang.model.element.Element;
import javax.lang.model.element.ElementKind;
import javax.lang.model.element.ExecutableElement;
import javax.lang.model.element.Modifier;
import javax.lang.model.element.TypeElement;
import javax.lang.model.type.TypeMirror;
import javax.tools.JavaCompiler;
import javax.tools.StandardJavaFileManager;
import javax.tools.ToolProvider;

/** LANGUAGE.md, as far as the program's tree shows it. Runs at the root of the project. */
public final class LanguageTest {
  private static final Path PROGRAM = Path.of("src", "main", "java", "HomeRounds.java");
  private static final int MOST_LINES = 60, MOST_PARAMETERS = 7, MOST_DEEP = 8;
  private static final int MOST_CLASSES = 12, MOST_FIELDS = 20;

  /** What the program calls of the library; more may come, from rule 4 alone. */
  private static final Set<String> LIBRARY = Set.of(
      "java.lang.Math.abs(int)", "java.lang.Math.min(int,int)", "java.lang.String.length()",
      "java.lang.String.charAt(int)",
      "java.util.Arrays.fill(int[],int)", "java.util.Arrays.fill(long[],long)",
      "java.lang.System.arraycopy(java.lang.Object,int,java.lang.Object,int,int)",
      "HomeRounds.Word.values()");
  private static final Set<String> NUMBERS = Set.of(
      "int", "long", "short", "byte", "char", "boolean", "double", "float");
  private static final Set<Tree.Kind> ON_FLOATS = EnumSet.of(
      Tree.Kind.PLUS, Tree.Kind.MINUS, Tree.Kind.MULTIPLY, Tree.Kind.DIVIDE, Tree.Kind.LESS_THAN,
      Tree.Kind.LESS_THAN_EQUAL, Tree.Kind.GREATER_THAN, Tree.Kind.GREATER_THAN_EQUAL,
      Tree.Kind.EQUAL_TO, Tree.Kind.NOT_EQUAL_TO);

  /** Where a divisor that is no constant was looked at by hand. */
  private static final Set<String> DIVIDING = Set.of("lowest");

  private final String text;
  private final CompilationUnitTree unit;
  private final Trees trees;
  private final Map<String, Set<String>> calls = new LinkedHashMap<>();
  private int classes = 0;

  private LanguageTest(String text, CompilationUnitTree unit, Trees trees) {
    this.text = text;
    this.unit = unit;
    this.trees = trees;
  }

  public static void main(String[] args) throws IOException {
    String text = Files.readString(PROGRAM);
    try (var files = Files.list(PROGRAM.getParent())) {
      Check.due("the program is one file", files.count(), 1);
    }
    Check.due("rule 3: signs 1 to 127", text.chars().allMatch(c -> c > 0 && c < 128));
    JavaCompiler compiler = ToolProvider.getSystemJavaCompiler();
    StandardJavaFileManager files = compiler.getStandardFileManager(null, null, null);
    JavacTask task = (JavacTask) compiler.getTask(null, files, null,
        List.of("-proc:none", "-d", System.getProperty("java.io.tmpdir")), null,
        files.getJavaFileObjects(PROGRAM));
    CompilationUnitTree unit = task.parse().iterator().next();
    task.analyze();
    LanguageTest test = new LanguageTest(text, unit, Trees.instance(task));
    test.new Scanner().scan(unit, null);
    test.ends();
    Check.end("LanguageTest");
  }

  private void ends() {
    Check.due("no package", unit.getPackageName() == null);
    for (ImportTree row : unit.getImports()) {
      String name = row.getQualifiedIdentifier().toString();
      Check.due("rule 4: import " + name, !row.isStatic() && Set.of("java.util.Arrays",
          "java.util.ArrayList", "java.util.List", "java.util.Iterator").contains(name));
    }
    Check.due("rule 11: classes: " + classes, classes <= MOST_CLASSES);
    Check.due("methods were found", calls.size() > 80);
    for (String method : calls.keySet()) {
      int deep = depthOf(method, new LinkedHashSet<>());
      Check.due("rule 11: " + method + " goes " + deep + " deep", deep <= MOST_DEEP);
    }
  }

  /** How many calls stand open below a method, it too; calls that come back are told. */
  private int depthOf(String method, Set<String> open) {
    Check.due("rule 8: " + method + " comes back to itself by " + open, !open.contains(method));
    if (open.contains(method) || !calls.containsKey(method)) {
      return 1;
    }
    open.add(method);
    int most = 0;
    for (String callee : calls.get(method)) {
      most = Math.max(most, depthOf(callee, open));
    }
    open.remove(method);
    return most + 1;
  }

  private long lineAt(Tree tree, boolean isEnd) {
    var places = trees.getSourcePositions();
    long place = isEnd ? places.getEndPosition(unit, tree) : places.getStartPosition(unit, tree);
    return unit.getLineMap().getLineNumber(place);
  }

  private static String nameOf(Element method) {
    return method.getEnclosingElement() + "." + method;
  }

  /** Looks at every part of the program once. */
  private final class Scanner extends TreePathScanner<Void, Void> {
    private String method = "";
    private String plainName = "";

    private void due(String rule, Tree part, boolean holds) {
      if (!holds) {
        Check.due(rule + ", line " + lineAt(part, false) + ": " + part, false);
      } else {
        Check.due(rule, true);
      }
    }

    private TypeMirror typeOf(Tree part) {
      return trees.getTypeMirror(new TreePath(getCurrentPath(), part));
    }

    private boolean isFloating(Tree part) {
      TypeMirror type = typeOf(part);
      return type != null && (type.toString().equals("float") || type.toString().equals("double"));
    }

    /** Rule 3: numbers, own classes, texts, rows of these, tables of numbers. */
    private boolean isAllowed(TypeMirror type) {
      String name = type.toString();
      String plain = name.replace("[]", "");
      int rows = (name.length() - plain.length()) / 2;
      if (NUMBERS.contains(plain)) {
        return rows <= 2;
      }
      return rows <= 1 && (plain.startsWith("HomeRounds") || plain.equals("java.lang.String")
          || plain.equals("java.lang.StringBuilder"));
    }

    @Override
    public Void visitClass(ClassTree node, Void v) {
      classes++;
      boolean isInside = getCurrentPath().getParentPath().getLeaf() instanceof ClassTree;
      Set<Modifier> flags = node.getModifiers().getFlags();
      if (isInside) {
        due("rule 1: hidden", node, !flags.contains(Modifier.PUBLIC)
            && !flags.contains(Modifier.PROTECTED));
        due("rule 2: static", node, flags.contains(Modifier.STATIC)
            || node.getKind() == Tree.Kind.ENUM);
      } else {
        due("rule 2: no local class", node,
            getCurrentPath().getParentPath().getLeaf() instanceof CompilationUnitTree);
      }
      due("rule 2: no class above it", node, node.getExtendsClause() == null);
      int fields = 0;
      for (Tree member : node.getMembers()) {
        due("rule 5: no initialiser block", member, member.getKind() != Tree.Kind.BLOCK);
        if (member instanceof VariableTree field) {
          fields += field.getModifiers().getFlags().contains(Modifier.STATIC) ? 0 : 1;
        }
      }
      due("rule 11: " + fields + " fields", node, fields <= MOST_FIELDS);
      return super.visitClass(node, v);
    }

    @Override
    public Void visitMethod(MethodTree node, Void v) {
      ExecutableElement element = (ExecutableElement) trees.getElement(getCurrentPath());
      String was = method;
      method = nameOf(element);
      plainName = node.getName().toString();
      calls.putIfAbsent(method, new LinkedHashSet<>());
      due("rule 11: parameters", node, node.getParameters().size() <= MOST_PARAMETERS);
      if (node.getBody() != null && !plainName.equals("<init>")) {
        long lines = lineAt(node, true) - lineAt(node, false) + 1;
        due("rule 11: " + lines + " lines", node, lines <= MOST_LINES);
        due("rule 3: what it answers", node, node.getReturnType() == null
            || element.getReturnType().toString().equals("void")
            || isAllowed(element.getReturnType()));
      }
      due("rule 6: no throws", node, node.getThrows().isEmpty());
      due("no annotation", node, node.getModifiers().getAnnotations().isEmpty());
      super.visitMethod(node, v);
      method = was;
      return null;
    }

    @Override
    public Void visitVariable(VariableTree node, Void v) {
      Element element = trees.getElement(getCurrentPath());
      if (element.getKind() != ElementKind.ENUM_CONSTANT) {
        due("rule 3: the type", node, isAllowed(element.asType()));
      }
      boolean isField = element.getKind() == ElementKind.FIELD;
      if (isField && element.getModifiers().contains(Modifier.STATIC)) {
        due("rule 5: final", node, element.getModifiers().contains(Modifier.FINAL));
        due("rule 5: a constant, or the rows of an enum", node, node.getInitializer() != null
            && (((javax.lang.model.element.VariableElement) element).getConstantValue() != null
            || node.getInitializer().toString().equals("Word.values()")));
      }
      if (isField && ((TypeElement) element.getEnclosingElement()).getKind() == ElementKind.ENUM) {
        due("rule 2: an enum's field", node,
            Set.of("int", "long", "boolean", "java.lang.String").contains(
                element.asType().toString()));
      }
      return super.visitVariable(node, v);
    }

    private void called(Tree select) {
      Element callee = trees.getElement(new TreePath(getCurrentPath(), select));
      if (callee.getSimpleName().contentEquals("<init>")) {
        return;
      }
      String name = nameOf(callee);
      boolean isOwn = name.startsWith("HomeRounds") && !name.endsWith(".values()");
      due("rule 4: " + name, select, isOwn || LIBRARY.contains(name));
      calls.computeIfAbsent(method, m -> new LinkedHashSet<>()).add(name);
    }

    @Override
    public Void visitMethodInvocation(MethodInvocationTree node, Void v) {
      called(node.getMethodSelect());
      return super.visitMethodInvocation(node, v);
    }

    @Override
    public Void visitNewClass(NewClassTree node, Void v) {
      due("rule 12: made in a constructor", node, method.isEmpty() || plainName.equals("<init>"));
      due("rule 2: no body of its own", node, node.getClassBody() == null);
      Element made = trees.getElement(getCurrentPath());
      due("rule 4: own objects", node, nameOf(made).startsWith("HomeRounds"));
      calls.computeIfAbsent(method, m -> new LinkedHashSet<>()).add(nameOf(made));
      return super.visitNewClass(node, v);
    }

    @Override
    public Void visitNewArray(NewArrayTree node, Void v) {
      due("rule 12: made in a constructor", node, method.isEmpty() || plainName.equals("<init>"));
      for (ExpressionTree length : node.getDimensions()) {
        boolean isWritten = length.toString().matches("[A-Z_0-9* ]+");
        due("rule 7: a length that is written out", node, isWritten);
      }
      return super.visitNewArray(node, v);
    }

    @Override
    public Void visitBinary(BinaryTree node, Void v) {
      Tree left = node.getLeftOperand();
      ExpressionTree right = node.getRightOperand();
      boolean isShared = ON_FLOATS.contains(node.getKind());
      due("rule 3: on floats", node, isShared || !isFloating(left) && !isFloating(right));
      due("rule 10: no joining by +", node,
          !"java.lang.String".equals(String.valueOf(typeOf(node))));
      boolean divides = node.getKind() == Tree.Kind.DIVIDE
          || node.getKind() == Tree.Kind.REMAINDER;
      if (divides && !isFloating(left) && !isFloating(right)) {
        boolean isConstant = right.toString().matches("[1-9][0-9]*");
        due("rule 7: the divisor", node, isConstant || DIVIDING.contains(plainName));
      }
      return super.visitBinary(node, v);
    }

    @Override
    public Void visitForLoop(ForLoopTree node, Void v) {
      due("rule 9: an end", node, node.getCondition() != null);
      return super.visitForLoop(node, v);
    }

    @Override
    public Void visitTypeCast(TypeCastTree node, Void v) {
      due("rule 6: casts of numbers alone", node, NUMBERS.contains(node.getType().toString()));
      return super.visitTypeCast(node, v);
    }

    @Override
    public Void visitParameterizedType(ParameterizedTypeTree node, Void v) {
      due("no lists: what is kept is in rows", node, false);
      return super.visitParameterizedType(node, v);
    }

    @Override
    public Void visitInstanceOf(InstanceOfTree node, Void v) {
      due("no class is asked for", node, false);
      return super.visitInstanceOf(node, v);
    }

    @Override
    public Void visitLambdaExpression(LambdaExpressionTree node, Void v) {
      due("rule 2: no lambda", node, false);
      return null;
    }

    @Override
    public Void visitMemberReference(MemberReferenceTree node, Void v) {
      due("rule 2: no method reference", node, false);
      return null;
    }

    @Override
    public Void visitTry(TryTree node, Void v) {
      due("nothing is caught: no call of the document throws", node, false);
      return super.visitTry(node, v);
    }

    @Override
    public Void visitThrow(ThrowTree node, Void v) {
      due("rule 6: no call of the document throws", node, false);
      return super.visitThrow(node, v);
    }

    @Override
    public Void visitAssert(AssertTree node, Void v) {
      due("rule 6: no assert", node, false);
      return super.visitAssert(node, v);
    }

    @Override
    public Void visitSynchronized(SynchronizedTree node, Void v) {
      due("rule 6: no synchronized", node, false);
      return super.visitSynchronized(node, v);
    }
  }
}
