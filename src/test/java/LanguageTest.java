import com.sun.source.tree.AnnotationTree;
import com.sun.source.tree.BinaryTree;
import com.sun.source.tree.ClassTree;
import com.sun.source.tree.CompilationUnitTree;
import com.sun.source.tree.MethodInvocationTree;
import com.sun.source.tree.MethodTree;
import com.sun.source.tree.NewArrayTree;
import com.sun.source.tree.NewClassTree;
import com.sun.source.tree.Tree;
import com.sun.source.tree.VariableTree;
import com.sun.source.util.JavacTask;
import com.sun.source.util.TreePath;
import com.sun.source.util.TreePathScanner;
import com.sun.source.util.Trees;
import java.io.File;
import java.io.IOException;
import java.lang.reflect.Field;
import java.lang.reflect.Method;
import java.lang.reflect.Modifier;
import java.nio.file.Files;
import java.nio.file.Path;
import java.util.Arrays;
import java.util.LinkedHashMap;
import java.util.LinkedHashSet;
import java.util.List;
import java.util.Map;
import java.util.Set;
import java.util.TreeSet;
import javax.lang.model.element.Element;
import javax.lang.model.element.ElementKind;
import javax.lang.model.element.TypeElement;
import javax.tools.JavaCompiler;
import javax.tools.StandardJavaFileManager;
import javax.tools.ToolProvider;

/** The face of the document, and those rules of LANGUAGE.md that a machine can look at. */
public final class LanguageTest {
    private static final String SOURCE = "src/main/java/EachBookOnce.java";
    private static final Set<String> LIBRARY = Set.of("java.lang.Math.max", "java.lang.Math.min", "java.lang.Integer.bitCount",
            "java.lang.System.arraycopy", "java.lang.String.length", "java.lang.String.charAt");
    private static final Set<Tree.Kind> FORBIDDEN = Set.of(Tree.Kind.THROW, Tree.Kind.TRY, Tree.Kind.CATCH, Tree.Kind.SYNCHRONIZED,
            Tree.Kind.ASSERT, Tree.Kind.LAMBDA_EXPRESSION, Tree.Kind.MEMBER_REFERENCE, Tree.Kind.IMPORT, Tree.Kind.PACKAGE,
            Tree.Kind.SWITCH_EXPRESSION, Tree.Kind.ANNOTATION);
    private static int wrong;

    private static void must(boolean fine, String otherwise) {
        if (!fine) {
            wrong++;
            System.out.println(otherwise);
        }
    }

    private static String faceOfDocument() throws IOException {
        String text = Files.readString(Path.of("../shared/DOC.md"));
        int start = text.indexOf("public final class EachBookOnce {");
        Set<String> all = new TreeSet<>();
        for (String line : text.substring(start, text.indexOf("```", start)).split("\n")) {
            String plain = line.trim().replaceAll("(int|long|boolean) \\w+([,)])", "$1$2").replaceAll(", ", ",");
            if (plain.matches("public (int|long) .*;") && plain.contains("(")) {
                all.add(plain.substring(0, plain.length() - 1));
            }
        }
        return String.join("\n", all);
    }

    private static String faceOfClass() {
        Set<String> all = new TreeSet<>();
        for (Method m : EachBookOnce.class.getDeclaredMethods()) {
            if (Modifier.isPublic(m.getModifiers())) {
                all.add(m.toString().replace("EachBookOnce.", ""));
            } else {
                must(Modifier.isPrivate(m.getModifiers()), m + " is neither public nor private");
            }
        }
        return String.join("\n", all);
    }

    private static void faceIsTheDocuments() throws IOException {
        must(faceOfDocument().split("\n").length == 49, "the document's face could not be read");
        must(faceOfClass().equals(faceOfDocument()), "the face is\n" + faceOfClass() + "\nand not the document's\n" + faceOfDocument());
        must(Modifier.isFinal(EachBookOnce.class.getModifiers()), "the class is not final");
        must(EachBookOnce.class.getConstructors().length == 1, "there is not one public constructor");
        for (Field f : EachBookOnce.class.getDeclaredFields()) {
            must(Modifier.isPrivate(f.getModifiers()) || f.getName().equals("NONE"), f + " is not private");
        }
    }

    /** Walks over the class, sees what is written, and notes who calls whom. */
    private static final class Walk extends TreePathScanner<Void, Void> {
        final Trees trees;
        final CompilationUnitTree unit;
        final Map<String, Set<String>> calls = new LinkedHashMap<>();
        final Set<String> publicNames = new LinkedHashSet<>();
        int classes;

        Walk(Trees trees, CompilationUnitTree unit) {
            this.trees = trees;
            this.unit = unit;
        }

        private String place(Tree tree) {
            return SOURCE + ":" + line(trees.getSourcePositions().getStartPosition(unit, tree));
        }

        private long line(long position) {
            return unit.getLineMap().getLineNumber(position);
        }

        @Override
        public Void scan(Tree tree, Void none) {
            if (tree != null) {
                must(!FORBIDDEN.contains(tree.getKind()), "forbidden: " + tree.getKind());
            }
            return super.scan(tree, none);
        }

        @Override
        public Void visitAnnotation(AnnotationTree tree, Void none) {
            must(false, place(tree) + " an annotation");
            return null;
        }

        @Override
        public Void visitClass(ClassTree tree, Void none) {
            classes++;
            boolean isOuter = getCurrentPath().getParentPath().getLeaf() == unit;
            Set<javax.lang.model.element.Modifier> flags = tree.getModifiers().getFlags();
            must(isOuter || flags.contains(javax.lang.model.element.Modifier.STATIC), place(tree) + " a class inside that isn't static");
            long fields = tree.getMembers().stream().filter(m -> m instanceof VariableTree
                    && !((VariableTree) m).getModifiers().getFlags().contains(javax.lang.model.element.Modifier.STATIC)).count();
            must(fields <= 20, place(tree) + " has " + fields + " fields");
            return super.visitClass(tree, none);
        }

        @Override
        public Void visitMethod(MethodTree tree, Void none) {
            long start = line(trees.getSourcePositions().getStartPosition(unit, tree));
            long end = line(trees.getSourcePositions().getEndPosition(unit, tree));
            must(end - start < 60, place(tree) + " is too long");
            must(tree.getParameters().size() <= 7, place(tree) + " has too many parameters");
            Element self = trees.getElement(getCurrentPath());
            boolean isPublic = self.getModifiers().contains(javax.lang.model.element.Modifier.PUBLIC);
            boolean isOuters = self.getEnclosingElement().getSimpleName().contentEquals("EachBookOnce");
            must(!isPublic || isOuters, place(tree) + " is public in a class inside");
            if (isPublic) {
                publicNames.add(tree.getName().toString());
            } else {
                must(tree.getName().contentEquals("<init>") || !publicNames.contains(tree.getName().toString()),
                        place(tree) + " bears the name of a public method");
            }
            calls.putIfAbsent(name(self), new LinkedHashSet<>());
            return super.visitMethod(tree, none);
        }

        private static String name(Element method) {
            return method.getEnclosingElement().getSimpleName() + "." + method;
        }

        private Element enclosingMethod() {
            TreePath path = getCurrentPath();
            while (path != null && path.getLeaf().getKind() != Tree.Kind.METHOD) {
                path = path.getParentPath();
            }
            return path == null ? null : trees.getElement(path);
        }

        @Override
        public Void visitMethodInvocation(MethodInvocationTree tree, Void none) {
            Element callee = trees.getElement(new TreePath(getCurrentPath(), tree.getMethodSelect()));
            Element caller = enclosingMethod();
            String owner = ((TypeElement) callee.getEnclosingElement()).getQualifiedName().toString();
            boolean isOwn = owner.startsWith("EachBookOnce");
            boolean isSuper = callee.getKind() == ElementKind.CONSTRUCTOR;
            must(isOwn || isSuper || LIBRARY.contains(owner + "." + callee.getSimpleName()), place(tree) + " calls " + owner + "." + callee);
            if (caller != null && !isSuper) {
                calls.computeIfAbsent(name(caller), k -> new LinkedHashSet<>()).add(name(callee));
            }
            return super.visitMethodInvocation(tree, none);
        }

        @Override
        public Void visitVariable(VariableTree tree, Void none) {
            Set<javax.lang.model.element.Modifier> flags = tree.getModifiers().getFlags();
            boolean isStatic = flags.contains(javax.lang.model.element.Modifier.STATIC);
            must(!isStatic || flags.contains(javax.lang.model.element.Modifier.FINAL), place(tree) + " is static and not final");
            return super.visitVariable(tree, none);
        }

        private void madeWithTheObject(Tree tree) {
            must(enclosingMethod() == null, place(tree) + " makes an object in a call");
        }

        @Override
        public Void visitNewClass(NewClassTree tree, Void none) {
            madeWithTheObject(tree);
            return super.visitNewClass(tree, none);
        }

        @Override
        public Void visitNewArray(NewArrayTree tree, Void none) {
            madeWithTheObject(tree);
            return super.visitNewArray(tree, none);
        }

        @Override
        public Void visitBinary(BinaryTree tree, Void none) {
            TreePath path = getCurrentPath();
            must(tree.getKind() != Tree.Kind.PLUS || !trees.getTypeMirror(path).toString().equals("java.lang.String"),
                    place(tree) + " joins texts by +");
            return super.visitBinary(tree, none);
        }

        int depth(String method, List<String> open) {
            must(!open.contains(method), method + " calls itself");
            if (open.contains(method) || open.size() > 20) {
                return 0;
            }
            List<String> deeper = new java.util.ArrayList<>(open);
            deeper.add(method);
            int most = 0;
            for (String callee : calls.getOrDefault(method, Set.of())) {
                most = Math.max(most, depth(callee, deeper));
            }
            return most + 1;
        }
    }

    private static void sourceKeepsTheRules() throws IOException {
        JavaCompiler compiler = ToolProvider.getSystemJavaCompiler();
        try (StandardJavaFileManager files = compiler.getStandardFileManager(null, null, null)) {
            JavacTask task = (JavacTask) compiler.getTask(null, files, null, List.of("-proc:none"), null,
                    files.getJavaFileObjectsFromFiles(Arrays.asList(new File(SOURCE))));
            CompilationUnitTree unit = task.parse().iterator().next();
            task.analyze();
            Walk walk = new Walk(Trees.instance(task), unit);
            walk.scan(unit, null);
            must(walk.classes <= 12, "there are " + walk.classes + " classes");
            must(walk.publicNames.size() == 50, "there are " + walk.publicNames.size() + " public names");
            for (String method : walk.calls.keySet()) {
                int depth = walk.depth(method, List.of());
                must(depth <= 8, method + " goes " + depth + " calls deep");
            }
        }
        for (char sign : Files.readString(Path.of(SOURCE)).toCharArray()) {
            must(sign == '\n' || sign >= 32 && sign < 127, "a sign " + (int) sign + " in the source");
        }
    }

    public static void main(String[] args) throws IOException {
        faceIsTheDocuments();
        sourceKeepsTheRules();
        System.out.println(wrong == 0 ? "the class keeps the rules" : wrong + " rules are broken");
        if (wrong != 0) {
            System.exit(1);
        }
    }
}
