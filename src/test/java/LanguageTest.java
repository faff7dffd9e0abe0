import com.sun.source.tree.*;
import com.sun.source.util.TreePath;
import com.sun.source.util.TreePathScanner;
import com.sun.source.util.Trees;
import java.lang.reflect.Constructor;
import java.lang.reflect.Field;
import java.lang.reflect.Method;
import java.lang.reflect.Modifier;
import java.util.ArrayList;
import java.util.Arrays;
import java.util.EnumSet;
import java.util.HashMap;
import java.util.HashSet;
import java.util.List;
import java.util.Map;
import java.util.Set;
import java.util.TreeSet;
import javax.lang.model.element.Element;
import javax.lang.model.element.ExecutableElement;

/** The public face of the document, and those rules of LANGUAGE.md that can be seen in the source's tree. */
public final class LanguageTest {
    private static final int LONGEST_METHOD = 60, MOST_PARAMETERS = 7, MOST_CLASSES = 12, MOST_FIELDS = 20, DEEPEST = 8;

    private static final String FACE = "HalfTickets() set(int,int) window(int,boolean) clerks(int,int) bring(int) read() "
        + "leave(int) pass(int) person(int,int) windowOf(int,int) count(int) untilDone(int) ifPassed(int,int) "
        + "bestClerk() longest() put(long) wipe() fault() undo() save(int) restore(int)";
    private static final Map<String, Integer> CONSTANTS = Map.of("NO_SUCH", -1, "BAD_VALUE", -2, "BAD_TEXT", -3,
        "TOO_MANY", -4, "NOT_POSSIBLE", -5, "NONE", -6, "SERVES", 0, "HALVES", 1, "LEAVES", 2);

    private static final Set<Tree.Kind> FORBIDDEN = EnumSet.of(Tree.Kind.THROW, Tree.Kind.TRY, Tree.Kind.SYNCHRONIZED,
        Tree.Kind.ASSERT, Tree.Kind.LAMBDA_EXPRESSION, Tree.Kind.MEMBER_REFERENCE, Tree.Kind.IMPORT);
    private static final Set<String> LIBRARY = Set.of("java.lang.Math", "java.lang.System");

    private static int wrong = 0;

    private static void wrong(String what) {
        wrong++;
        System.out.println(what);
    }

    private static void checkFace() throws Exception {
        Set<String> face = new TreeSet<>();
        for (Constructor<?> constructor : HalfTickets.class.getDeclaredConstructors()) {
            face.add("HalfTickets" + parameters(constructor.getParameterTypes()));
        }
        for (Method method : HalfTickets.class.getDeclaredMethods()) {
            boolean isPublic = Modifier.isPublic(method.getModifiers());
            if (isPublic && (method.getReturnType() != int.class || Modifier.isStatic(method.getModifiers()))) {
                wrong("is not as in the face: " + method);
            }
            if (isPublic) {
                face.add(method.getName() + parameters(method.getParameterTypes()));
            } else if (!Modifier.isPrivate(method.getModifiers())) {
                wrong("is visible: " + method);
            }
        }
        Set<String> due = new TreeSet<>(Arrays.asList(FACE.split(" ")));
        if (!face.equals(due)) {
            wrong("the face is " + face + ", due is " + due);
        }
        checkFields();
        if (!Modifier.isFinal(HalfTickets.class.getModifiers()) || !Modifier.isPublic(HalfTickets.class.getModifiers())) {
            wrong("the class is not public and final");
        }
    }

    private static void checkFields() throws Exception {
        int constants = 0;
        for (Field field : HalfTickets.class.getDeclaredFields()) {
            if (Modifier.isPrivate(field.getModifiers())) {
                continue;
            }
            Integer due = CONSTANTS.get(field.getName());
            int modifiers = Modifier.PUBLIC | Modifier.STATIC | Modifier.FINAL;
            if (due == null || field.getModifiers() != modifiers || field.getInt(null) != due) {
                wrong("is not a constant of the document: " + field);
            }
            constants++;
        }
        if (constants != CONSTANTS.size()) {
            wrong("there are " + constants + " constants");
        }
    }

    private static String parameters(Class<?>[] types) {
        List<String> names = new ArrayList<>();
        for (Class<?> type : types) {
            names.add(type.getName());
        }
        return "(" + String.join(",", names) + ")";
    }

    private static final class Rules extends TreePathScanner<Void, Void> {
        private final CompilationUnitTree unit;
        private final Trees trees;
        private final Set<String> publicNames = new HashSet<>();
        private final List<String> hiddenNames = new ArrayList<>();
        private final Map<Element, Set<Element>> calls = new HashMap<>();
        private Element method;
        private int classes = 0;

        Rules(CompilationUnitTree unit, Trees trees) {
            this.unit = unit;
            this.trees = trees;
        }

        private String at(Tree tree) {
            long position = trees.getSourcePositions().getStartPosition(unit, tree);
            return "line " + unit.getLineMap().getLineNumber(position) + ": ";
        }

        @Override
        public Void scan(Tree tree, Void nothing) {
            if (tree != null && FORBIDDEN.contains(tree.getKind())) {
                wrong(at(tree) + tree.getKind());
            }
            return super.scan(tree, nothing);
        }

        @Override
        public Void visitClass(ClassTree tree, Void nothing) {
            classes++;
            Set<javax.lang.model.element.Modifier> modifiers = tree.getModifiers().getFlags();
            boolean isInside = getCurrentPath().getParentPath().getLeaf() instanceof ClassTree;
            if (isInside && !modifiers.contains(javax.lang.model.element.Modifier.STATIC)) {
                wrong(at(tree) + "an inner class that is not static");
            }
            if (!isInside && !(getCurrentPath().getParentPath().getLeaf() instanceof CompilationUnitTree)) {
                wrong(at(tree) + "a local or anonymous class");
            }
            int fields = 0;
            for (Tree member : tree.getMembers()) {
                boolean isField = member instanceof VariableTree && !((VariableTree) member).getModifiers().getFlags()
                    .contains(javax.lang.model.element.Modifier.STATIC);
                fields += isField ? 1 : 0;
            }
            if (fields > MOST_FIELDS) {
                wrong(at(tree) + fields + " fields");
            }
            return super.visitClass(tree, nothing);
        }

        @Override
        public Void visitMethod(MethodTree tree, Void nothing) {
            long first = trees.getSourcePositions().getStartPosition(unit, tree);
            long last = trees.getSourcePositions().getEndPosition(unit, tree);
            long lines = unit.getLineMap().getLineNumber(last) - unit.getLineMap().getLineNumber(first) + 1;
            if (lines > LONGEST_METHOD) {
                wrong(at(tree) + tree.getName() + " has " + lines + " lines");
            }
            if (tree.getParameters().size() > MOST_PARAMETERS) {
                wrong(at(tree) + "too many parameters");
            }
            boolean isPublic = tree.getModifiers().getFlags().contains(javax.lang.model.element.Modifier.PUBLIC);
            (isPublic ? publicNames : hiddenNames).add(tree.getName().toString());
            Element outer = method;
            method = trees.getElement(getCurrentPath());
            calls.put(method, new HashSet<>());
            super.visitMethod(tree, nothing);
            method = outer;
            return null;
        }

        @Override
        public Void visitMethodInvocation(MethodInvocationTree tree, Void nothing) {
            called(trees.getElement(new TreePath(getCurrentPath(), tree.getMethodSelect())), tree);
            return super.visitMethodInvocation(tree, nothing);
        }

        @Override
        public Void visitNewClass(NewClassTree tree, Void nothing) {
            called(trees.getElement(getCurrentPath()), tree);
            return super.visitNewClass(tree, nothing);
        }

        private void called(Element target, Tree tree) {
            if (!(target instanceof ExecutableElement) || method == null) {
                return;
            }
            String owner = target.getEnclosingElement().toString();
            boolean isOwn = owner.startsWith("HalfTickets");
            boolean isClone = target.getSimpleName().contentEquals("clone");
            boolean isSuper = target.getSimpleName().contentEquals("<init>") && owner.equals("java.lang.Object");
            if (!isOwn && !isClone && !isSuper && !LIBRARY.contains(owner)) {
                wrong(at(tree) + "calls " + owner + "." + target);
            }
            if (isOwn) {
                calls.get(method).add(target);
            }
        }

        private int depthBelow(Element from, List<Element> open) {
            if (open.contains(from)) {
                wrong("recursion: " + from);
                return 0;
            }
            open.add(from);
            int deepest = 0;
            for (Element next : calls.getOrDefault(from, Set.of())) {
                deepest = Math.max(deepest, depthBelow(next, open));
            }
            open.remove(open.size() - 1);
            return deepest + 1;
        }

        void checkWhole() {
            if (classes > MOST_CLASSES) {
                wrong(classes + " classes");
            }
            for (String name : hiddenNames) {
                if (publicNames.contains(name) && !name.equals("<init>")) {
                    wrong("a hidden method bears the name of a public one: " + name);
                }
            }
            for (Element method : calls.keySet()) {
                int depth = depthBelow(method, new ArrayList<>());
                if (depth > DEEPEST) {
                    wrong(method + " goes " + depth + " calls deep");
                }
            }
        }
    }

    private static void checkSource() throws Exception {
        Source source = Source.read();
        Rules rules = new Rules(source.unit(), source.trees());
        rules.scan(source.unit(), null);
        rules.checkWhole();
    }

    public static void main(String[] args) throws Exception {
        checkFace();
        checkSource();
        System.out.println(wrong == 0 ? "the source keeps to the rules" : wrong + " rules are broken");
        if (wrong != 0) {
            System.exit(1);
        }
    }
}
