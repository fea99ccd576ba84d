import com.sun.source.tree.*;
import com.sun.source.util.JavacTask;
import com.sun.source.util.TreePath;
import com.sun.source.util.TreePathScanner;
import com.sun.source.util.Trees;
import java.io.File;
import java.lang.reflect.Field;
import java.lang.reflect.Method;
import java.lang.reflect.Modifier;
import java.util.ArrayList;
import java.util.Arrays;
import java.util.LinkedHashMap;
import java.util.LinkedHashSet;
import java.util.List;
import java.util.Map;
import java.util.Set;
import java.util.TreeSet;
import javax.lang.model.element.Element;
import javax.lang.model.element.ElementKind;
import javax.lang.model.type.ArrayType;
import javax.lang.model.type.TypeKind;
import javax.lang.model.type.TypeMirror;
import javax.tools.JavaCompiler;
import javax.tools.StandardJavaFileManager;
import javax.tools.ToolProvider;

/** What of ../shared/LANGUAGE.md can be seen in the text of the class, in its tree, and in its members; by its rules' numbers. */
public final class LanguageTest extends TreePathScanner<Void, Void> {
    private static final Check CHECK = new Check();
    private static final String FILE = "src/main/java/HymnLamps.java";
    private static final List<String> FACE = Arrays.asList("feed", "end", "text", "fault", "ground", "letter", "person", "word", "hymn",
        "where", "lit", "clash", "clashes", "still", "read", "far", "nearest", "said", "between", "danger", "least", "soon", "way",
        "steps", "paint", "missed", "alike", "teach", "lamp", "learn", "undo", "ask", "image", "octet", "on");
    /** Kinds of trees that rules 2, 6 and 8 to 10 rule out, and those that the class has no need of. */
    private static final Set<Tree.Kind> RULED_OUT = Set.of(Tree.Kind.LAMBDA_EXPRESSION, Tree.Kind.MEMBER_REFERENCE, Tree.Kind.THROW,
        Tree.Kind.TRY, Tree.Kind.CATCH, Tree.Kind.SYNCHRONIZED, Tree.Kind.ASSERT, Tree.Kind.IMPORT, Tree.Kind.ANNOTATION, Tree.Kind.ENUM,
        Tree.Kind.INTERFACE, Tree.Kind.RECORD, Tree.Kind.INSTANCE_OF, Tree.Kind.BINDING_PATTERN, Tree.Kind.SWITCH_EXPRESSION,
        Tree.Kind.DOUBLE_LITERAL, Tree.Kind.FLOAT_LITERAL, Tree.Kind.PARAMETERIZED_TYPE, Tree.Kind.PACKAGE, Tree.Kind.ERRONEOUS);
    /** Of the library the class uses these alone (rule 4). */
    private static final Set<String> LIBRARY = Set.of("Object.Object", "Integer.bitCount", "Long.bitCount", "Math.floorDiv", "Math.max",
        "Math.min", "String.charAt", "String.length", "String.indexOf");

    private final Trees trees;
    private final CompilationUnitTree unit;
    private final Map<Element, Set<Element>> calls = new LinkedHashMap<>();
    private Element method;

    private LanguageTest(Trees trees, CompilationUnitTree unit) {
        this.trees = trees;
        this.unit = unit;
    }

    public static void main(String[] args) throws Exception {
        JavaCompiler compiler = ToolProvider.getSystemJavaCompiler();
        StandardJavaFileManager files = compiler.getStandardFileManager(null, null, null);
        List<String> options = Arrays.asList("--release", "17", "-proc:none");
        JavacTask task = (JavacTask) compiler.getTask(null, files, null, options, null, files.getJavaFileObjects(new File(FILE)));
        CompilationUnitTree unit = task.parse().iterator().next();
        task.analyze();
        LanguageTest test = new LanguageTest(Trees.instance(task), unit);
        test.scan(unit, null);
        test.recursion();
        test.depth();
        signs(unit.getSourceFile().getCharContent(true));
        face();
        members(HymnLamps.class);
        for (Class<?> each : HymnLamps.class.getDeclaredClasses()) {
            members(each);
        }
        CHECK.done();
    }

    private static void ruled(String rule, boolean kept) {
        CHECK.due("rule " + rule, kept, true);
    }

    private long line(Tree tree) {
        return unit.getLineMap().getLineNumber(trees.getSourcePositions().getStartPosition(unit, tree));
    }

    private long lastLine(Tree tree) {
        return unit.getLineMap().getLineNumber(trees.getSourcePositions().getEndPosition(unit, tree));
    }

    private TypeMirror type(Tree tree) {
        return trees.getTypeMirror(new TreePath(getCurrentPath(), tree));
    }

    private static boolean isText(TypeMirror type) {
        return type != null && type.toString().equals("java.lang.String");
    }

    private static boolean isOwn(Element element) {
        return element.toString().startsWith("HymnLamps");
    }

    // ---- the tree, each part of it

    @Override
    public Void scan(Tree tree, Void none) {
        if (tree != null) {
            ruled("2, 6: " + tree.getKind() + " in line " + line(tree), !RULED_OUT.contains(tree.getKind()));
        }
        return super.scan(tree, none);
    }

    @Override
    public Void visitClass(ClassTree tree, Void none) {
        Tree.Kind around = getCurrentPath().getParentPath().getLeaf().getKind();
        boolean outer = around == Tree.Kind.COMPILATION_UNIT;
        ruled("2: " + tree.getSimpleName() + " stands in the class itself", outer || around == Tree.Kind.CLASS);
        Set<javax.lang.model.element.Modifier> has = tree.getModifiers().getFlags();
        ruled("2: " + tree.getSimpleName() + " is static", outer || has.contains(javax.lang.model.element.Modifier.STATIC));
        ruled("2: " + tree.getSimpleName() + " has no class above it", tree.getExtendsClause() == null && tree.getImplementsClause().isEmpty());
        for (Tree member : tree.getMembers()) {
            ruled("5: no initialiser block in line " + line(member), member.getKind() != Tree.Kind.BLOCK);
        }
        return super.visitClass(tree, none);
    }

    @Override
    public Void visitMethod(MethodTree tree, Void none) {
        method = trees.getElement(getCurrentPath());
        calls.put(method, new LinkedHashSet<>());
        ruled("11: " + tree.getName() + " takes at most seven", tree.getParameters().size() <= 7);
        ruled("11: " + tree.getName() + " is short", lastLine(tree) - line(tree) <= 60);
        super.visitMethod(tree, none);
        method = null;
        return null;
    }

    @Override
    public Void visitVariable(VariableTree tree, Void none) {
        TypeMirror type = trees.getTypeMirror(getCurrentPath());
        int dimensions = 0;
        while (type.getKind() == TypeKind.ARRAY) {
            type = ((ArrayType) type).getComponentType();
            dimensions++;
        }
        boolean number = type.getKind().isPrimitive() && type.getKind() != TypeKind.DOUBLE && type.getKind() != TypeKind.FLOAT;
        boolean own = type.toString().startsWith("HymnLamps");
        ruled("3: the type of " + tree, number && dimensions <= 2 || (own || isText(type)) && dimensions <= 1);
        return super.visitVariable(tree, none);
    }

    @Override
    public Void visitMethodInvocation(MethodInvocationTree tree, Void none) {
        called(trees.getElement(new TreePath(getCurrentPath(), tree.getMethodSelect())), line(tree));
        return super.visitMethodInvocation(tree, none);
    }

    @Override
    public Void visitNewClass(NewClassTree tree, Void none) {
        ruled("2: no class without a name in line " + line(tree), tree.getClassBody() == null);
        ruled("12: no call makes an object, in line " + line(tree), method != null && method.getKind() == ElementKind.CONSTRUCTOR);
        called(trees.getElement(getCurrentPath()), line(tree));
        return super.visitNewClass(tree, none);
    }

    @Override
    public Void visitNewArray(NewArrayTree tree, Void none) {
        // arrays that fields begin with are made with the object, or are constants
        ruled("12: no call makes an array, in line " + line(tree), method == null);
        return super.visitNewArray(tree, none);
    }

    private void called(Element target, long line) {
        Element owner = target.getEnclosingElement();
        if (isOwn(owner)) {
            if (method != null) {
                calls.get(method).add(target);
            }
        } else {
            String name = target.getKind() == ElementKind.CONSTRUCTOR ? owner.getSimpleName().toString() : target.getSimpleName().toString();
            ruled("4: " + owner + "." + name + " in line " + line, LIBRARY.contains(owner.getSimpleName() + "." + name)
                    && owner.toString().startsWith("java.lang."));
        }
    }

    @Override
    public Void visitBinary(BinaryTree tree, Void none) {
        boolean same = tree.getKind() == Tree.Kind.EQUAL_TO || tree.getKind() == Tree.Kind.NOT_EQUAL_TO;
        boolean texts = isText(type(tree.getLeftOperand())) || isText(type(tree.getRightOperand()));
        ruled("6: == of two texts in line " + line(tree), !(same && texts));
        ruled("10: + of texts in line " + line(tree), !(tree.getKind() == Tree.Kind.PLUS && texts));
        return super.visitBinary(tree, none);
    }

    @Override
    public Void visitCompoundAssignment(CompoundAssignmentTree tree, Void none) {
        ruled("10: += of a text in line " + line(tree), !isText(type(tree.getVariable())));
        return super.visitCompoundAssignment(tree, none);
    }

    @Override
    public Void visitWhileLoop(WhileLoopTree tree, Void none) {
        bounded(tree.getCondition(), line(tree));
        return super.visitWhileLoop(tree, none);
    }

    @Override
    public Void visitDoWhileLoop(DoWhileLoopTree tree, Void none) {
        bounded(tree.getCondition(), line(tree));
        return super.visitDoWhileLoop(tree, none);
    }

    @Override
    public Void visitForLoop(ForLoopTree tree, Void none) {
        bounded(tree.getCondition(), line(tree));
        return super.visitForLoop(tree, none);
    }

    /** Rule 9: a comparison of numbers that does not stand behind an or. */
    private static void bounded(ExpressionTree condition, long line) {
        ruled("9: a bound of the loop in line " + line, condition != null && hasBound(condition));
    }

    private static boolean hasBound(ExpressionTree condition) {
        if (condition instanceof ParenthesizedTree) {
            return hasBound(((ParenthesizedTree) condition).getExpression());
        }
        if (condition.getKind() == Tree.Kind.CONDITIONAL_AND) {
            BinaryTree both = (BinaryTree) condition;
            return hasBound(both.getLeftOperand()) || hasBound(both.getRightOperand());
        }
        return Set.of(Tree.Kind.LESS_THAN, Tree.Kind.LESS_THAN_EQUAL, Tree.Kind.GREATER_THAN, Tree.Kind.GREATER_THAN_EQUAL)
                .contains(condition.getKind());
    }

    // ---- who calls whom

    private Set<Element> reached(Element from) {
        Set<Element> all = new LinkedHashSet<>();
        List<Element> next = new ArrayList<>(calls.get(from));
        while (!next.isEmpty()) {
            Element each = next.remove(next.size() - 1);
            if (calls.containsKey(each) && all.add(each)) {
                next.addAll(calls.get(each));
            }
        }
        return all;
    }

    /** Rule 8: only private methods call one another. */
    private void recursion() {
        Set<String> found = new TreeSet<>();
        for (Element each : calls.keySet()) {
            if (reached(each).contains(each)) {
                found.add(each.getSimpleName().toString());
                ruled("8: " + each + " calls itself and is private", each.getModifiers().contains(javax.lang.model.element.Modifier.PRIVATE));
            }
        }
        // what these open is counted, up to the limit of FAULT 4
        CHECK.same("rule 8: those that call themselves", found.toString(), "[takeFact, takePair, takePart, takeSum, takeTest]");
    }

    /** Rule 11: calls that are no recursion go at most eight deep; all that call one another are one level. */
    private void depth() {
        for (Element each : calls.keySet()) {
            int deep = depthOf(each);
            ruled("11: " + each + " goes " + deep + " deep", deep <= 8);
        }
    }

    private int depthOf(Element from) {
        Set<Element> level = new LinkedHashSet<>();
        level.add(from);
        for (Element each : reached(from)) {
            if (reached(each).contains(from)) {
                level.add(each);
            }
        }
        int deepest = 0;
        for (Element each : level) {
            for (Element next : calls.get(each)) {
                if (calls.containsKey(next) && !level.contains(next)) {
                    deepest = Math.max(deepest, depthOf(next));
                }
            }
        }
        return deepest + 1;
    }

    // ---- the text, and members

    /** Rule 3: texts hold signs 1 to 127; so does all of the file. */
    private static void signs(CharSequence text) {
        for (int k = 0; k < text.length(); k++) {
            if (text.charAt(k) > 126 || text.charAt(k) < 32 && text.charAt(k) != '\n') {
                CHECK.due("sign at " + k, text.charAt(k), ' ');
            }
        }
    }

    /** Rule 1: the public members are those of the document, and no other member bears the name of one. */
    private static void face() {
        List<String> got = new ArrayList<>();
        for (Method each : HymnLamps.class.getDeclaredMethods()) {
            if (Modifier.isPublic(each.getModifiers())) {
                got.add(each.getName());
            } else {
                ruled("1: " + each + " is private", Modifier.isPrivate(each.getModifiers()));
                ruled("1: " + each + " has a name of its own", !FACE.contains(each.getName()));
            }
        }
        CHECK.due("rule 1: public methods " + got, got.size(), FACE.size());
        ruled("1: all of the face", got.containsAll(FACE));
        ruled("1: the class is public and final", Modifier.isPublic(HymnLamps.class.getModifiers()) && Modifier.isFinal(HymnLamps.class.getModifiers()));
        CHECK.due("rule 1: constructors", HymnLamps.class.getDeclaredConstructors().length, 1);
        CHECK.due("rule 1: public constructors", HymnLamps.class.getConstructors().length, 1);
        CHECK.due("rule 1: public fields", HymnLamps.class.getFields().length, 2);
        ruled("11: at most twelve classes", HymnLamps.class.getDeclaredClasses().length + 1 <= 12);
    }

    /** Rules 1, 5 and 11: fields, and the names of methods. */
    private static void members(Class<?> each) {
        int own = 0;
        for (Field field : each.getDeclaredFields()) {
            int access = field.getModifiers();
            boolean constant = field.getName().equals("NONE") || field.getName().equals("NOTHING");
            ruled("1: " + field + " is private", each != HymnLamps.class || Modifier.isPrivate(access) || constant);
            ruled("5: " + field + " is final", !Modifier.isStatic(access) || Modifier.isFinal(access));
            own += Modifier.isStatic(access) ? 0 : 1;
        }
        ruled("11: " + each + " has " + own + " fields", own <= 20);
        for (Method method : each.getDeclaredMethods()) {
            ruled("1: " + method + " has a name of its own", each == HymnLamps.class || !FACE.contains(method.getName()));
            ruled("6: " + method, !Set.of("equals", "hashCode", "toString").contains(method.getName()));
        }
    }
}
