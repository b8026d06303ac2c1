import com.sun.source.tree.*;
import com.sun.source.util.JavacTask;
import com.sun.source.util.TreePath;
import com.sun.source.util.TreePathScanner;
import com.sun.source.util.Trees;
import java.io.IOException;
import java.nio.file.Files;
import java.nio.file.Path;
import java.util.ArrayList;
import java.util.HashMap;
import java.util.HashSet;
import java.util.List;
import java.util.Map;
import java.util.Set;
import java.util.TreeMap;
import java.util.TreeSet;
import javax.lang.model.element.Element;
import javax.lang.model.element.ElementKind;
import javax.lang.model.element.ExecutableElement;
import javax.lang.model.element.Modifier;
import javax.lang.model.element.TypeElement;
import javax.lang.model.type.ArrayType;
import javax.lang.model.type.DeclaredType;
import javax.lang.model.type.TypeKind;
import javax.lang.model.type.TypeMirror;
import javax.tools.JavaCompiler;
import javax.tools.StandardJavaFileManager;
import javax.tools.ToolProvider;

/** Holds the program to ../shared/LANGUAGE.md, as far as the compiler's own tree of it shows what is ruled out. */
public final class LanguageTest {
    private static final int MOST_CLASSES = 12, MOST_FIELDS = 22, MOST_LINES = 60, MOST_PARAMETERS = 7, DEEPEST = 8;
    private static final Set<String> IMPORTS = Set.of("java.util.ArrayList", "java.util.List", "java.util.Arrays",
            "java.util.Iterator");
    private static final Set<String> TYPES = Set.of("java.lang.String", "java.lang.StringBuilder", "java.lang.Integer",
            "java.util.ArrayList", "java.util.List");
    private static final Map<String, Set<String>> LIBRARY = Map.of(
            "java.lang.String", Set.of("length", "charAt", "isEmpty", "equals", "indexOf", "substring", "toCharArray"),
            "java.lang.StringBuilder",
            Set.of("append", "charAt", "setCharAt", "setLength", "deleteCharAt", "reverse", "length", "toString"),
            "java.util.ArrayList", Set.of("add", "get", "set", "remove", "size", "isEmpty", "clear"),
            "java.util.List", Set.of("add", "get", "set", "remove", "size", "isEmpty", "clear", "of"),
            "java.lang.Integer", Set.of("compare", "max", "min", "bitCount", "numberOfLeadingZeros", "numberOfTrailingZeros"),
            "java.lang.Long", Set.of("compare", "max", "min", "bitCount", "numberOfLeadingZeros", "numberOfTrailingZeros"),
            "java.lang.Math", Set.of("max", "min", "abs", "floorDiv", "floorMod"),
            "java.lang.System", Set.of("arraycopy"),
            "java.util.Arrays", Set.of("copyOf", "copyOfRange", "fill"));
    // What no part of the program may be.
    private static final Map<Tree.Kind, String> RULED_OUT = Map.ofEntries(
            Map.entry(Tree.Kind.LAMBDA_EXPRESSION, "rule 2"), Map.entry(Tree.Kind.MEMBER_REFERENCE, "rule 2"),
            Map.entry(Tree.Kind.ANNOTATION, "rule 2"), Map.entry(Tree.Kind.UNION_TYPE, "rule 3"),
            Map.entry(Tree.Kind.THROW, "rule 6"), Map.entry(Tree.Kind.TRY, "rule 6"), Map.entry(Tree.Kind.CATCH, "rule 6"),
            Map.entry(Tree.Kind.SYNCHRONIZED, "rule 6"), Map.entry(Tree.Kind.ASSERT, "rule 6"));

    public static void main(String[] args) throws IOException {
        Path source = Path.of(args.length > 0 ? args[0] : ".", "src/main/java/TestHouse.java");
        String text = Files.readString(source);
        boolean plain = text.chars().allMatch(c -> c == 10 || c >= 32 && c <= 126);
        Checks.due("rule 4: no sign but those of ASCII", plain ? 1 : 0, 1);
        JavaCompiler compiler = ToolProvider.getSystemJavaCompiler();
        try (StandardJavaFileManager files = compiler.getStandardFileManager(null, null, null)) {
            JavacTask task = (JavacTask) compiler.getTask(null, files, null, List.of("-proc:none"), null,
                    files.getJavaFileObjects(source));
            CompilationUnitTree unit = task.parse().iterator().next();
            task.analyze();
            Walk walk = new Walk(Trees.instance(task), unit);
            walk.scan(new TreePath(unit), null);
            walk.end();
        }
        Checks.end("LanguageTest");
    }

    /** Goes over the whole program, and keeps what is known of it only at the end. */
    private static final class Walk extends TreePathScanner<Void, Void> {
        private final Trees trees;
        private final CompilationUnitTree unit;
        private final LineMap lines;
        private final Set<String> publicNames = new TreeSet<>();
        private final List<ExecutableElement> hidden = new ArrayList<>();
        private final Map<Element, Set<Element>> calls = new HashMap<>();
        private final Map<String, Integer> fields = new TreeMap<>();
        private int classes;
        private int methods;
        private int libraryCalls;
        private Element caller;

        Walk(Trees trees, CompilationUnitTree unit) {
            this.trees = trees;
            this.unit = unit;
            this.lines = unit.getLineMap();
        }

        private String at(Tree tree) {
            return "line " + lines.getLineNumber(trees.getSourcePositions().getStartPosition(unit, tree)) + ": ";
        }

        private void holds(String rule, boolean held) {
            Checks.due(rule, held ? 1 : 0, 1);
        }

        private TypeMirror typeOf(Tree tree) {
            return trees.getTypeMirror(new TreePath(getCurrentPath(), tree));
        }

        private static String nameOf(TypeMirror type) {
            return type instanceof DeclaredType d ? ((TypeElement) d.asElement()).getQualifiedName().toString() : "";
        }

        private static boolean isOwn(TypeMirror type) {
            return nameOf(type).startsWith("TestHouse");
        }

        private static boolean isText(TypeMirror type) {
            return nameOf(type).equals("java.lang.String");
        }

        /** Rule 3: numbers, own classes, the few of the library; arrays of one dimension, of two where they are of numbers. */
        private static boolean isAllowed(TypeMirror type) {
            if (type instanceof ArrayType row) {
                TypeMirror part = row.getComponentType();
                boolean square = part instanceof ArrayType inner && inner.getComponentType().getKind().isPrimitive();
                return part.getKind().isPrimitive() || isOwn(part) || square;
            }
            if (type instanceof DeclaredType d) {
                return isOwn(type) || TYPES.contains(nameOf(type)) && d.getTypeArguments().stream().allMatch(Walk::isListed);
            }
            return type.getKind().isPrimitive() || type.getKind() == TypeKind.VOID;
        }

        private static boolean isListed(TypeMirror type) {
            return isOwn(type) || nameOf(type).equals("java.lang.Integer");
        }

        @Override
        public Void scan(Tree tree, Void nothing) {
            if (tree != null && RULED_OUT.containsKey(tree.getKind())) {
                holds(at(tree) + RULED_OUT.get(tree.getKind()) + ", " + tree.getKind(), false);
            }
            return super.scan(tree, nothing);
        }

        @Override
        public Void visitCompilationUnit(CompilationUnitTree tree, Void nothing) {
            holds("no package line", tree.getPackageName() == null);
            holds("rule 1: one class on the outside", tree.getTypeDecls().size() == 1);
            for (ImportTree line : tree.getImports()) {
                String name = line.getQualifiedIdentifier().toString();
                holds("rule 4: import of " + name, IMPORTS.contains(name) && !line.isStatic());
            }
            return super.visitCompilationUnit(tree, nothing);
        }

        @Override
        public Void visitClass(ClassTree tree, Void nothing) {
            Element element = trees.getElement(getCurrentPath());
            Set<Modifier> has = element.getModifiers();
            boolean outer = element.getSimpleName().contentEquals("TestHouse");
            classes++;
            holds(at(tree) + "rule 1: " + element, outer ? has.equals(Set.of(Modifier.PUBLIC, Modifier.FINAL))
                    : has.contains(Modifier.STATIC) && !has.contains(Modifier.PUBLIC) && !has.contains(Modifier.PROTECTED));
            boolean inside = element.getEnclosingElement().getKind() == ElementKind.CLASS;
            holds(at(tree) + "rule 2: no local class", outer || inside);
            for (Tree member : tree.getMembers()) {
                holds(at(member) + "rule 5: no initialiser block", member.getKind() != Tree.Kind.BLOCK);
            }
            if (outer) {
                outerMembers(element);
            }
            return super.visitClass(tree, nothing);
        }

        private void outerMembers(Element outer) {
            for (Element member : outer.getEnclosedElements()) {
                boolean shown = member.getModifiers().contains(Modifier.PUBLIC);
                boolean type = member.getKind().isClass() || member.getKind().isInterface();
                holds("rule 1: " + member, shown || type || member.getModifiers().contains(Modifier.PRIVATE));
                if (shown && member.getKind() == ElementKind.METHOD) {
                    publicNames.add(member.getSimpleName().toString());
                }
            }
        }

        @Override
        public Void visitVariable(VariableTree tree, Void nothing) {
            Element element = trees.getElement(getCurrentPath());
            holds(at(tree) + "rule 3: the type of " + element, isAllowed(element.asType()));
            if (element.getKind() == ElementKind.FIELD && !element.getModifiers().contains(Modifier.STATIC)) {
                fields.merge(element.getEnclosingElement().toString(), 1, Integer::sum);
            } else if (element.getKind() == ElementKind.FIELD) {
                TypeMirror type = element.asType();
                boolean row = type instanceof ArrayType a && a.getComponentType().getKind().isPrimitive()
                        && tree.getInitializer() instanceof NewArrayTree written && written.getInitializers() != null;
                boolean constant = type.getKind().isPrimitive() || isText(type);
                holds(at(tree) + "rule 5: " + element, element.getModifiers().contains(Modifier.FINAL) && (row || constant));
            }
            return super.visitVariable(tree, nothing);
        }

        @Override
        public Void visitMethod(MethodTree tree, Void nothing) {
            ExecutableElement element = (ExecutableElement) trees.getElement(getCurrentPath());
            Element around = caller;
            caller = element;
            calls.put(element, new HashSet<>());
            methods++;
            long first = lines.getLineNumber(trees.getSourcePositions().getStartPosition(unit, tree));
            long last = lines.getLineNumber(trees.getSourcePositions().getEndPosition(unit, tree));
            holds(at(tree) + "rule 11: lines of " + element, last - first < MOST_LINES);
            holds(at(tree) + "rule 11: parameters of " + element, tree.getParameters().size() <= MOST_PARAMETERS);
            holds(at(tree) + "rule 3: what " + element + " answers",
                    tree.getReturnType() == null || isAllowed(element.getReturnType()));
            if (!element.getModifiers().contains(Modifier.PUBLIC)) {
                hidden.add(element);
            }
            super.visitMethod(tree, nothing);
            caller = around;
            return null;
        }

        @Override
        public Void visitMethodInvocation(MethodInvocationTree tree, Void nothing) {
            called(tree, (ExecutableElement) trees.getElement(getCurrentPath()));
            return super.visitMethodInvocation(tree, nothing);
        }

        @Override
        public Void visitNewClass(NewClassTree tree, Void nothing) {
            holds(at(tree) + "rule 2: no class without a name", tree.getClassBody() == null);
            ExecutableElement made = (ExecutableElement) trees.getElement(getCurrentPath());
            String type = ((TypeElement) made.getEnclosingElement()).getQualifiedName().toString();
            holds(at(tree) + "rule 4: new " + type, type.startsWith("TestHouse")
                    || Set.of("java.util.ArrayList", "java.lang.StringBuilder", "java.lang.String").contains(type));
            if (type.startsWith("TestHouse") && caller != null) {
                calls.get(caller).add(made);
            }
            return super.visitNewClass(tree, nothing);
        }

        private void called(Tree tree, ExecutableElement target) {
            String type = ((TypeElement) target.getEnclosingElement()).getQualifiedName().toString();
            String name = target.getSimpleName().toString();
            if (type.startsWith("TestHouse")) {
                if (caller != null) {
                    calls.get(caller).add(target);
                }
                return;
            }
            libraryCalls++;
            boolean ofArray = name.equals("clone") || name.equals("<init>");
            holds(at(tree) + "rule 4: " + type + "." + name, ofArray || LIBRARY.getOrDefault(type, Set.of()).contains(name));
        }

        @Override
        public Void visitMemberSelect(MemberSelectTree tree, Void nothing) {
            Element element = trees.getElement(getCurrentPath());
            if (element != null && element.getKind() == ElementKind.FIELD && caller != null) {
                TypeMirror of = element.getEnclosingElement() == null ? null : element.getEnclosingElement().asType();
                boolean length = element.getSimpleName().contentEquals("length");
                holds(at(tree) + "rule 4: field " + tree, length || of != null && isOwn(of));
            }
            return super.visitMemberSelect(tree, nothing);
        }

        @Override
        public Void visitBinary(BinaryTree tree, Void nothing) {
            TypeMirror left = typeOf(tree.getLeftOperand());
            TypeMirror right = typeOf(tree.getRightOperand());
            if (tree.getKind() == Tree.Kind.PLUS) {
                holds(at(tree) + "rule 10: no text by +", !isText(left) && !isText(right));
            } else if (tree.getKind() == Tree.Kind.EQUAL_TO || tree.getKind() == Tree.Kind.NOT_EQUAL_TO) {
                boolean boxed = nameOf(left).startsWith("java.") && nameOf(right).startsWith("java.");
                holds(at(tree) + "rule 6: no == of texts", !boxed);
            }
            return super.visitBinary(tree, nothing);
        }

        @Override
        public Void visitCompoundAssignment(CompoundAssignmentTree tree, Void nothing) {
            holds(at(tree) + "rule 10: no text by +=", !isText(typeOf(tree.getVariable())));
            dueChangeable(tree, tree.getVariable());
            return super.visitCompoundAssignment(tree, nothing);
        }

        @Override
        public Void visitAssignment(AssignmentTree tree, Void nothing) {
            dueChangeable(tree, tree.getVariable());
            return super.visitAssignment(tree, nothing);
        }

        @Override
        public Void visitUnary(UnaryTree tree, Void nothing) {
            dueChangeable(tree, tree.getExpression());
            return super.visitUnary(tree, nothing);
        }

        private void dueChangeable(Tree tree, ExpressionTree changed) {
            if (changed instanceof ArrayAccessTree access) {
                Element row = trees.getElement(new TreePath(getCurrentPath(), access.getExpression()));
                boolean constant = row != null && row.getKind() == ElementKind.FIELD
                        && row.getModifiers().contains(Modifier.STATIC);
                boolean reads = tree instanceof UnaryTree && (tree.getKind() == Tree.Kind.UNARY_MINUS
                        || tree.getKind() == Tree.Kind.LOGICAL_COMPLEMENT || tree.getKind() == Tree.Kind.BITWISE_COMPLEMENT);
                holds(at(tree) + "rule 5: a row of constants is changed", !constant || reads);
            }
        }

        @Override
        public Void visitTypeCast(TypeCastTree tree, Void nothing) {
            holds(at(tree) + "rule 6: a cast among numbers alone", typeOf(tree.getType()).getKind().isPrimitive());
            return super.visitTypeCast(tree, nothing);
        }

        @Override
        public Void visitWhileLoop(WhileLoopTree tree, Void nothing) {
            holds(at(tree) + "rule 9: an end that can be seen", !tree.getCondition().toString().equals("(true)"));
            return super.visitWhileLoop(tree, nothing);
        }

        @Override
        public Void visitForLoop(ForLoopTree tree, Void nothing) {
            holds(at(tree) + "rule 9: an end that can be seen", tree.getCondition() != null);
            return super.visitForLoop(tree, nothing);
        }

        @Override
        public Void visitLiteral(LiteralTree tree, Void nothing) {
            boolean broken = tree.getValue() instanceof Float || tree.getValue() instanceof Double;
            holds(at(tree) + "whole numbers alone", !broken);
            return super.visitLiteral(tree, nothing);
        }

        void end() {
            holds("the walk met classes, methods, calls of the library", classes > 1 && methods > 40 && libraryCalls > 40);
            holds("rule 11: " + classes + " classes", classes <= MOST_CLASSES);
            fields.forEach((name, many) -> holds("rule 11: " + many + " fields of " + name, many <= MOST_FIELDS));
            for (ExecutableElement method : hidden) {
                boolean same = method.getEnclosingElement().getSimpleName().contentEquals("TestHouse")
                        && publicNames.contains(method.getSimpleName().toString());
                holds("rule 1: the name of " + method, !same);
            }
            Map<Element, Integer> known = new HashMap<>();
            for (Element method : calls.keySet()) {
                boolean open = method.getModifiers().contains(Modifier.PUBLIC);
                holds("rule 8: no recursion of " + method, !open || !reaches(method).contains(method));
                int deep = depth(method, known);
                holds("rule 11: the calls of " + method + " go " + deep + " deep", deep <= DEEPEST);
            }
        }

        private Set<Element> reaches(Element from) {
            Set<Element> found = new HashSet<>();
            List<Element> open = new ArrayList<>(calls.getOrDefault(from, Set.of()));
            while (!open.isEmpty()) {
                Element next = open.remove(open.size() - 1);
                if (found.add(next)) {
                    open.addAll(calls.getOrDefault(next, Set.of()));
                }
            }
            return found;
        }

        /** How deep calls go that are no recursion: methods that call one another count once. */
        private int depth(Element method, Map<Element, Integer> known) {
            Integer told = known.get(method);
            if (told != null) {
                return told;
            }
            Set<Element> round = new HashSet<>(reaches(method));
            round.removeIf(other -> !reaches(other).contains(method));
            round.add(method);
            int below = 0;
            for (Element one : round) {
                for (Element next : calls.getOrDefault(one, Set.of())) {
                    below = round.contains(next) ? below : Math.max(below, depth(next, known));
                }
            }
            known.put(method, below + 1);
            return below + 1;
        }
    }
}
