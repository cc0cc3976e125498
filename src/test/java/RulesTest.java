import com.sun.source.tree.AnnotationTree;
import com.sun.source.tree.AssertTree;
import com.sun.source.tree.BinaryTree;
import com.sun.source.tree.BlockTree;
import com.sun.source.tree.ClassTree;
import com.sun.source.tree.CompilationUnitTree;
import com.sun.source.tree.ForLoopTree;
import com.sun.source.tree.LambdaExpressionTree;
import com.sun.source.tree.LiteralTree;
import com.sun.source.tree.MemberReferenceTree;
import com.sun.source.tree.MethodInvocationTree;
import com.sun.source.tree.MethodTree;
import com.sun.source.tree.NewClassTree;
import com.sun.source.tree.SynchronizedTree;
import com.sun.source.tree.ThrowTree;
import com.sun.source.tree.Tree;
import com.sun.source.tree.TryTree;
import com.sun.source.tree.VariableTree;
import com.sun.source.tree.WhileLoopTree;
import com.sun.source.util.JavacTask;
import com.sun.source.util.TreePathScanner;
import com.sun.source.util.Trees;
import java.io.File;
import java.util.ArrayList;
import java.util.HashMap;
import java.util.HashSet;
import java.util.List;
import java.util.Map;
import java.util.Set;
import java.util.TreeMap;
import java.util.TreeSet;
import javax.lang.model.element.Element;
import javax.lang.model.element.ElementKind;
import javax.lang.model.element.Modifier;
import javax.lang.model.element.TypeElement;
import javax.lang.model.type.ArrayType;
import javax.lang.model.type.TypeKind;
import javax.lang.model.type.TypeMirror;
import javax.tools.JavaCompiler;
import javax.tools.StandardJavaFileManager;
import javax.tools.ToolProvider;

/** The rules of LANGUAGE.md that can be seen from the program's text, each by its number. */
public final class RulesTest {
    private static final String PROGRAM = "src/main/java/FrostLocks.java";
    private static final int MOST_PARAMETERS = 7;
    private static final int MOST_LINES = 60;
    private static final int MOST_DEEP = 8;
    private static final int MOST_CLASSES = 12;
    private static final int MOST_FIELDS = 20;

    // What the program may use of rule 4's library; what it does not use yet is left out.
    private static final Set<String> LIBRARY = Set.of("String.length", "String.charAt", "String.indexOf", "Math.max",
        "Math.min", "Math.floorMod", "Integer.bitCount", "Arrays.fill", "Arrays.copyOf", "System.arraycopy");
    private static final Set<String> THROWN = Set.of("IllegalStateException", "IllegalArgumentException",
        "IndexOutOfBoundsException", "ArithmeticException", "UnsupportedOperationException",
        "NoSuchElementException", "RuntimeException");
    private static final Set<String> RECURSIVE = Set.of("PrisonReader.readLevel", "PrisonReader.readPart");

    private final Check check = new Check();
    private final Map<String, Set<String>> calls = new TreeMap<>();
    private final Set<String> openNames = new HashSet<>();
    private final List<String> ownNames = new ArrayList<>();
    private CompilationUnitTree unit;
    private Trees trees;
    private int classes;

    public static void main(String[] args) throws Exception {
        RulesTest test = new RulesTest();
        test.read();
        test.new Reader().scan(test.unit, null);
        test.names();
        test.depths();
        test.rule("11: at most some twelve classes, not " + test.classes, test.classes <= MOST_CLASSES);
        test.check.end();
    }

    private void rule(String what, boolean kept) {
        check.due("rule " + what, kept, true);
    }

    private void read() throws Exception {
        JavaCompiler compiler = ToolProvider.getSystemJavaCompiler();
        StandardJavaFileManager files = compiler.getStandardFileManager(null, null, null);
        JavacTask task = (JavacTask) compiler.getTask(null, files, null, List.of("-proc:none"), null,
            files.getJavaFileObjects(new File(PROGRAM)));
        unit = task.parse().iterator().next();
        task.analyze();
        trees = Trees.instance(task);
        rule("1: no package line", unit.getPackageName() == null);
        rule("1: one class alone", unit.getTypeDecls().size() == 1);
        String text = unit.getSourceFile().getCharContent(true).toString();
        rule("4: signs 1 to 127", text.chars().allMatch(sign -> sign > 0 && sign < 128));
    }

    private void names() {
        for (String name : ownNames) {
            rule("1: no private method bears a public one's name: " + name, !openNames.contains(name));
        }
    }

    /** Both methods of a recursion count, each once. */
    private void depths() {
        for (String method : calls.keySet()) {
            boolean recursive = reaches(method, method, new HashSet<>());
            rule("8: recursion alone where the depth is an argument: " + method,
                recursive == RECURSIVE.contains(method));
        }
        Map<String, Integer> deep = new HashMap<>();
        for (String method : calls.keySet()) {
            rule("11: at most eight deep: " + method + " " + depth(method, deep), depth(method, deep) <= MOST_DEEP);
        }
        rule("11: the depth is found", deep.get("FrostLocks.prison") > 5 && deep.get("FrostLocks.enough") > 5);
    }

    private boolean reaches(String from, String to, Set<String> seen) {
        for (String called : calls.getOrDefault(from, Set.of())) {
            if (called.equals(to) || seen.add(called) && reaches(called, to, seen)) {
                return true;
            }
        }
        return false;
    }

    private int depth(String method, Map<String, Integer> deep) {
        Integer known = deep.get(method);
        if (known != null) {
            return known;
        }
        // A recursion that is not told above must not hang the test; it was found wrong already.
        deep.put(method, 0);
        int most = 0;
        Set<String> behind = new TreeSet<>(calls.getOrDefault(method, Set.of()));
        if (RECURSIVE.contains(method)) {
            RECURSIVE.forEach(other -> behind.addAll(calls.getOrDefault(other, Set.of())));
            behind.removeAll(RECURSIVE);
        }
        for (String called : behind) {
            most = Math.max(most, depth(called, deep));
        }
        int own = RECURSIVE.contains(method) ? RECURSIVE.size() : 1;
        deep.put(method, most + own);
        return most + own;
    }

    /** Looks at each part of the program. */
    private final class Reader extends TreePathScanner<Void, Void> {
        private String type = "";
        private String method = "";
        private boolean inConstructor;

        private Element element(Tree tree) {
            return trees.getElement(trees.getPath(unit, tree));
        }

        private TypeMirror typeOf(Tree tree) {
            return trees.getTypeMirror(trees.getPath(unit, tree));
        }

        private boolean isOwn(TypeMirror type) {
            return type.toString().startsWith("FrostLocks");
        }

        private String at(Tree tree) {
            return type + "." + method + " '" + tree.toString().split("\n")[0] + "'";
        }

        @Override
        public Void visitClass(ClassTree tree, Void none) {
            String outer = type;
            String outerMethod = method;
            type = tree.getSimpleName().toString();
            method = "<class>";
            classes++;
            Set<Modifier> modifiers = tree.getModifiers().getFlags();
            if (outer.isEmpty()) {
                rule("1: public and final", modifiers.equals(Set.of(Modifier.PUBLIC, Modifier.FINAL)));
            } else {
                Element own = element(tree);
                rule("1: static inside: " + type, own.getModifiers().contains(Modifier.STATIC));
                rule("1: not seen outside: " + type, !modifiers.contains(Modifier.PUBLIC)
                    && !modifiers.contains(Modifier.PROTECTED));
            }
            int fields = 0;
            for (Tree member : tree.getMembers()) {
                if (member instanceof VariableTree field && !element(field).getModifiers().contains(Modifier.STATIC)) {
                    fields++;
                }
                rule("5: no initialiser block in " + type, !(member instanceof BlockTree));
            }
            rule("11: at most some twenty fields: " + type + " " + fields, fields <= MOST_FIELDS);
            super.visitClass(tree, none);
            type = outer;
            method = outerMethod;
            return null;
        }

        @Override
        public Void visitMethod(MethodTree tree, Void none) {
            String outerMethod = method;
            inConstructor = tree.getName().contentEquals("<init>");
            method = tree.getName().toString();
            if (tree.getModifiers().getFlags().contains(Modifier.PUBLIC)) {
                openNames.add(method);
            } else if (!inConstructor) {
                ownNames.add(method);
            }
            calls.putIfAbsent(type + "." + method, new TreeSet<>());
            rule("11: at most seven parameters: " + type + "." + method,
                tree.getParameters().size() <= MOST_PARAMETERS);
            long from = trees.getSourcePositions().getStartPosition(unit, tree);
            long to = trees.getSourcePositions().getEndPosition(unit, tree);
            long lines = to < 0 ? 0 : unit.getLineMap().getLineNumber(to) - unit.getLineMap().getLineNumber(from) + 1;
            rule("11: some sixty lines: " + type + "." + method + " " + lines, lines <= MOST_LINES);
            super.visitMethod(tree, none);
            method = outerMethod;
            inConstructor = false;
            return null;
        }

        @Override
        public Void visitVariable(VariableTree tree, Void none) {
            Element own = element(tree);
            String name = type + "." + tree.getName();
            TypeMirror kind = own.asType();
            rule("3: a type that may be used: " + name + " " + kind, isAllowed(kind));
            Set<Modifier> modifiers = own.getModifiers();
            if (own.getKind() == ElementKind.FIELD && modifiers.contains(Modifier.STATIC)) {
                boolean words = kind.toString().equals("FrostLocks.Word[]") && name.equals("Word.ALL");
                boolean plain = kind.getKind() == TypeKind.INT || kind.getKind() == TypeKind.LONG
                    || kind.toString().equals("java.lang.String");
                rule("5: a static field is a constant: " + name, modifiers.contains(Modifier.FINAL)
                    && (plain || words));
            }
            boolean ofEnum = own.getEnclosingElement().getKind() == ElementKind.ENUM;
            if (ofEnum && own.getKind() == ElementKind.FIELD && !modifiers.contains(Modifier.STATIC)) {
                rule("2: an enum's field is plain: " + name, kind.getKind().isPrimitive());
            }
            return super.visitVariable(tree, none);
        }

        private boolean isAllowed(TypeMirror kind) {
            if (kind instanceof ArrayType array) {
                return !(array.getComponentType() instanceof ArrayType) && isAllowed(array.getComponentType());
            }
            boolean number = kind.getKind().isPrimitive() && kind.getKind() != TypeKind.DOUBLE
                && kind.getKind() != TypeKind.FLOAT;
            return number || kind.toString().equals("java.lang.String") || isOwn(kind);
        }

        private void noteCall(Element called) {
            TypeElement owner = (TypeElement) called.getEnclosingElement();
            String name = owner.getSimpleName() + "." + called.getSimpleName();
            if (isOwn(owner.asType())) {
                boolean values = name.equals("Word.values");
                rule("12: values() is kept once: " + type + "." + method, !values || method.equals("<class>"));
                calls.computeIfAbsent(type + "." + method, key -> new TreeSet<>()).add(name);
            } else if (!called.getSimpleName().contentEquals("<init>")) {
                rule("4: of the library only what is told: " + name, LIBRARY.contains(name));
            }
        }

        @Override
        public Void visitMethodInvocation(MethodInvocationTree tree, Void none) {
            noteCall(element(tree.getMethodSelect()));
            return super.visitMethodInvocation(tree, none);
        }

        @Override
        public Void visitNewClass(NewClassTree tree, Void none) {
            rule("2: no class without a name: " + at(tree), tree.getClassBody() == null || type.equals("Word"));
            boolean own = isOwn(typeOf(tree));
            rule("4: made by its own name: " + at(tree), own || THROWN.contains(tree.getIdentifier().toString()));
            noteCall(element(tree));
            return super.visitNewClass(tree, none);
        }

        @Override
        public Void visitThrow(ThrowTree tree, Void none) {
            boolean kept = tree.getExpression() instanceof NewClassTree made
                && THROWN.contains(made.getIdentifier().toString()) && made.getArguments().size() < 2
                && made.getArguments().stream().allMatch(text -> text instanceof LiteralTree);
            rule("6: a throw of its kind: " + at(tree), kept && !inConstructor);
            boolean told = method.equals("man") || method.equals("degrees");
            rule("6: thrown where the document says so: " + at(tree), told && type.equals("FrostLocks"));
            return super.visitThrow(tree, none);
        }

        @Override
        public Void visitBinary(BinaryTree tree, Void none) {
            boolean same = tree.getKind() == Tree.Kind.EQUAL_TO || tree.getKind() == Tree.Kind.NOT_EQUAL_TO;
            boolean text = typeOf(tree.getLeftOperand()).toString().startsWith("java.lang");
            rule("6: no == of texts: " + at(tree), !same || !text);
            rule("10: no texts joined by +: " + at(tree), !typeOf(tree).toString().startsWith("java.lang"));
            return super.visitBinary(tree, none);
        }

        @Override
        public Void visitForLoop(ForLoopTree tree, Void none) {
            rule("9: a loop has an end: " + at(tree), tree.getCondition() != null);
            return super.visitForLoop(tree, none);
        }

        @Override
        public Void visitWhileLoop(WhileLoopTree tree, Void none) {
            rule("9: a loop has an end: " + at(tree), !(tree.getCondition() instanceof LiteralTree)
                && !tree.getCondition().toString().equals("(true)"));
            return super.visitWhileLoop(tree, none);
        }

        @Override
        public Void visitTry(TryTree tree, Void none) {
            rule("6: nothing is caught: " + at(tree), false);
            return super.visitTry(tree, none);
        }

        @Override
        public Void visitLambdaExpression(LambdaExpressionTree tree, Void none) {
            rule("2: no lambda: " + at(tree), false);
            return super.visitLambdaExpression(tree, none);
        }

        @Override
        public Void visitMemberReference(MemberReferenceTree tree, Void none) {
            rule("2: no method reference: " + at(tree), false);
            return super.visitMemberReference(tree, none);
        }

        @Override
        public Void visitSynchronized(SynchronizedTree tree, Void none) {
            rule("6: nothing synchronized: " + at(tree), false);
            return super.visitSynchronized(tree, none);
        }

        @Override
        public Void visitAssert(AssertTree tree, Void none) {
            rule("6: no assert: " + at(tree), false);
            return super.visitAssert(tree, none);
        }

        @Override
        public Void visitAnnotation(AnnotationTree tree, Void none) {
            rule("4: nothing of the library by a sign: " + at(tree), false);
            return super.visitAnnotation(tree, none);
        }
    }
}
