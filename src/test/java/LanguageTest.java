import com.sun.management.ThreadMXBean;
import java.io.IOException;
import java.lang.management.ManagementFactory;
import java.lang.reflect.Constructor;
import java.lang.reflect.Field;
import java.lang.reflect.Method;
import java.lang.reflect.Modifier;
import java.nio.file.Files;
import java.nio.file.Path;
import java.util.ArrayList;
import java.util.Arrays;
import java.util.HashMap;
import java.util.HashSet;
import java.util.List;
import java.util.Map;
import java.util.NoSuchElementException;
import java.util.Set;
import java.util.TreeSet;
import java.util.regex.Matcher;
import java.util.regex.Pattern;

/** The public face, and the rules of LANGUAGE.md that can be read off the class and its text. */
public final class LanguageTest {
    private static final Path SOURCE = Path.of("src/main/java/CadenceDesk.java");

    private static final String[] FACE = {
        "int feed(int, int, int, int, int)", "int film(int)", "int rules(int)", "int frame(int, int, int)",
        "int cadence(int, int)", "int force(int)", "int carry(int, int)", "int cut(int, int)", "int doubled(int, int)",
        "int noise(int, int)", "int set(int, int, int)", "int undo()", "int field(int, int)", "int apart(int, int)",
        "int path(int, int)", "int all(int)", "int edit(int)", "int group(int, int)", "int found(int, int, int)",
        "int known(int)", "int restored()", "int costs(int)", "int guess(int)", "int anew(int, int, int)",
        "boolean isClean(int)", "int count(int)"};

    private static final int MOST_PARAMETERS = 7;
    private static final int MOST_LINES = 60;
    private static final int MOST_DEPTH = 8;
    private static final int MOST_CLASSES = 12;
    private static final int MOST_FIELDS = 20;

    private final Check check = new Check("LanguageTest");
    private final String text;
    private final List<Part> parts;

    private LanguageTest() throws IOException {
        text = withoutComments(Files.readString(SOURCE));
        parts = partsOf(text);
    }

    public static void main(String[] args) throws IOException {
        LanguageTest test = new LanguageTest();
        test.check.runPromises(test);
    }

    // ---- the text, read

    /** A method or constructor: its class, its name, its text. */
    private record Part(String owner, String name, int parameters, String body) {
    }

    /** Texts in quotes are emptied, too. */
    private static String withoutComments(String source) {
        return source.replaceAll("(?s)/\\*.*?\\*/", "").replaceAll("//[^\n]*", "").replaceAll("\"[^\"\n]*\"", "\"\"");
    }

    private static List<Part> partsOf(String source) {
        List<Part> found = new ArrayList<>();
        Pattern head = Pattern.compile("( +)(?:public |private |static |final )*(?:class (\\w+)"
            + "|(?:[\\w\\[\\]]+ )?(\\w+)\\(([^)]*)\\)(?: throws \\w+)?) \\{");
        String[] lines = source.split("\n");
        String owner = "CadenceDesk";
        for (int i = 0; i < lines.length; i++) {
            Matcher match = head.matcher(lines[i]);
            if (!match.matches() || match.group(1).length() > 8 || lines[i].contains(" new ")) {
                continue;
            }
            if (match.group(2) != null) {
                owner = match.group(2);
                continue;
            }
            int end = i;
            while (!lines[end].equals(match.group(1) + "}")) {
                end++;
            }
            String body = String.join("\n", Arrays.copyOfRange(lines, i + 1, end + 1));
            String list = match.group(4);
            String holder = match.group(1).length() == 4 ? "CadenceDesk" : owner;
            found.add(new Part(holder, match.group(3), list.isEmpty() ? 0 : list.split(",").length, body));
        }
        return found;
    }

    private void dueNone(String what, String pattern) {
        Matcher match = Pattern.compile(pattern).matcher(text);
        check.due(what, match.find() ? match.group().trim() : "", "");
    }

    private static List<Class<?>> classes() {
        List<Class<?>> all = new ArrayList<>();
        all.add(CadenceDesk.class);
        all.addAll(Arrays.asList(CadenceDesk.class.getDeclaredClasses()));
        return all;
    }

    // ---- 1: the face

    void rule01_theClassIsPublicAndFinal() {
        check.due("public final", CadenceDesk.class.getModifiers(), Modifier.PUBLIC | Modifier.FINAL);
        check.due("package", CadenceDesk.class.getPackageName(), "");
        check.due("extends", CadenceDesk.class.getSuperclass().getName(), "java.lang.Object");
        check.due("implements", CadenceDesk.class.getInterfaces().length, 0);
    }

    void rule01_theFaceAndNoOther() {
        Set<String> seen = new TreeSet<>();
        for (Method method : CadenceDesk.class.getDeclaredMethods()) {
            int modifiers = method.getModifiers();
            check.due(method.getName() + " is public or private",
                Modifier.isPublic(modifiers) || Modifier.isPrivate(modifiers), true);
            if (Modifier.isPublic(modifiers)) {
                check.due(method.getName() + " is public alone", modifiers, Modifier.PUBLIC);
                String list = Arrays.toString(method.getParameterTypes());
                seen.add(method.getReturnType() + " " + method.getName()
                    + "(" + list.substring(1, list.length() - 1) + ")");
            }
        }
        check.due("the calls", seen.toString(), new TreeSet<>(Arrays.asList(FACE)).toString());
    }

    void p01_theConstructorIsPublicAndAlone() {
        Constructor<?>[] constructors = CadenceDesk.class.getDeclaredConstructors();
        check.due("one", constructors.length, 1);
        check.due("public", constructors[0].getModifiers(), Modifier.PUBLIC);
        check.due("asks nothing", constructors[0].getParameterCount(), 0);
        check.due("throws nothing", constructors[0].getExceptionTypes().length, 0);
    }

    void p14_fieldAloneSaysThatItThrows() {
        for (Method method : CadenceDesk.class.getDeclaredMethods()) {
            Class<?>[] thrown = method.getExceptionTypes();
            check.due(method.getName(), thrown.length, method.getName().equals("field") ? 1 : 0);
            if (thrown.length > 0) {
                check.due("it throws", thrown[0].getName(), NoSuchElementException.class.getName());
            }
        }
    }

    void rule01_theConstantNone() throws ReflectiveOperationException {
        for (Field field : CadenceDesk.class.getDeclaredFields()) {
            boolean isNone = field.getName().equals("NONE");
            check.due(field.getName() + " is private", Modifier.isPrivate(field.getModifiers()), !isNone);
        }
        Field none = CadenceDesk.class.getDeclaredField("NONE");
        check.due("NONE", none.getModifiers(), Modifier.PUBLIC | Modifier.STATIC | Modifier.FINAL);
        check.due("its type", none.getType().getName(), "int");
        check.due("its value", none.getInt(null), -1);
    }

    void rule01_noOtherMethodBearsAPublicName() {
        Set<String> names = new HashSet<>();
        for (Method method : CadenceDesk.class.getMethods()) {
            names.add(method.getName());
        }
        for (Class<?> owner : classes()) {
            for (Method method : owner.getDeclaredMethods()) {
                boolean isFace = owner == CadenceDesk.class && Modifier.isPublic(method.getModifiers());
                check.due(owner.getName() + " " + method.getName(), !isFace && names.contains(method.getName()), false);
            }
        }
    }

    void rule01_classesInsideAreStaticAndNotPublic() {
        for (Class<?> inside : CadenceDesk.class.getDeclaredClasses()) {
            int modifiers = inside.getModifiers();
            check.due(inside.getName() + " is static", Modifier.isStatic(modifiers), true);
            check.due("public", Modifier.isPublic(modifiers) || Modifier.isProtected(modifiers), false);
        }
    }

    // ---- 2 to 6: what the text may hold

    void rule02_noLambdaAndNoMethodReference() {
        dueNone("lambda", "->");
        dueNone("method reference", "::");
        dueNone("anonymous class", "new \\w+\\([^)]*\\) \\{");
    }

    void rule03_noOtherTypes() {
        dueNone("doubles, floats and boxes", "\\b(double|float|Object|Integer|Long|Map|Set|Optional|var)\\b");
        dueNone("three dimensions", "\\[\\]\\[\\]\\[\\]");
    }

    void rule04_theLibraryIsWhatIsListed() {
        Matcher imports = Pattern.compile("import ([^;]+);").matcher(text);
        check.due("an import", imports.find(), true);
        check.due("it is", imports.group(1), "java.util.NoSuchElementException");
        check.due("another import", imports.find(), false);
        dueNone("a library's name in full", "\\bjavax?\\.(?!util\\.NoSuchElementException;)");
        dueNone("Math", "\\bMath\\.(?!(max|min|abs)\\()");
        dueNone("System", "\\bSystem\\.(?!arraycopy\\()");
        dueNone("others", "\\b(Arrays|Character|Thread|Runtime|String|List|ArrayList|StringBuilder)\\b(?! word\\))");
    }

    void rule05_staticFieldsAreConstants() {
        List<String> types = List.of("int", "long", "boolean", "char", "java.lang.String");
        for (Class<?> owner : classes()) {
            for (Field field : owner.getDeclaredFields()) {
                if (Modifier.isStatic(field.getModifiers())) {
                    check.due(field.getName() + " is final", Modifier.isFinal(field.getModifiers()), true);
                    check.due(field.getName() + "'s type", types.contains(field.getType().getName()), true);
                }
            }
        }
        dueNone("a static block", "static \\{");
    }

    void rule06_nothingIsCaughtAndFieldAloneThrows() {
        dueNone("words", "\\b(try|catch|finally|synchronized|assert|instanceof|native|volatile)\\b");
        for (Part part : parts) {
            boolean throwsIt = part.body().contains("throw ");
            check.due(part.owner() + "." + part.name(), throwsIt, part.name().equals("field"));
        }
        dueNone("throw", "\\bthrow (?!new NoSuchElementException\\(\"\"\\);)");
        dueNone("of each object", "\\b(equals|hashCode|toString|getClass)\\(");
    }

    // ---- 9 to 11: sizes

    void rule09_loopsHaveAnEnd() {
        dueNone("for ever", "while \\(true\\)|for \\(;|for \\([^;]*;\\s*;");
    }

    void rule11_parametersLinesClassesAndFields() {
        check.due("methods were read", parts.size() > 150, true);
        for (Part part : parts) {
            String name = part.owner() + "." + part.name();
            check.due(name + "'s parameters", part.parameters() <= MOST_PARAMETERS, true);
            check.due(name + "'s lines", part.body().split("\n").length <= MOST_LINES, true);
        }
        check.due("classes", classes().size() <= MOST_CLASSES, true);
        for (Class<?> owner : classes()) {
            int fields = 0;
            for (Field field : owner.getDeclaredFields()) {
                fields += Modifier.isStatic(field.getModifiers()) ? 0 : 1;
            }
            check.due(owner.getName() + "'s fields", fields <= MOST_FIELDS, true);
        }
    }

    /**
     * By name and number of parameters alone: a call behind a dot counts as a call of every method
     * that can be called so, in whatever class.
     */
    void rule11_callsGoAtMostEightDeep() {
        Map<Part, Integer> depths = new HashMap<>();
        int deepest = 0;
        for (Part part : parts) {
            int depth = depthOf(part, depths, 0);
            deepest = Math.max(deepest, depth);
            check.due(part.owner() + "." + part.name() + "'s depth " + depth, depth <= MOST_DEPTH, true);
        }
        check.due("calls were read", deepest > 4, true);
    }

    private int depthOf(Part part, Map<Part, Integer> depths, int open) {
        if (open > MOST_DEPTH) {
            return 1;
        }
        Integer known = depths.get(part);
        if (known != null) {
            return known;
        }
        int deepest = 0;
        Matcher call = Pattern.compile("(\\.)?\\b(\\w+)\\(").matcher(part.body());
        while (call.find()) {
            int given = argumentsFrom(part.body(), call.end());
            for (Part called : parts) {
                boolean isNear = called.owner().equals(part.owner()) || called.owner().equals("CadenceDesk");
                if (called.name().equals(call.group(2)) && called.parameters() == given
                        && (isNear || call.group(1) != null)) {
                    deepest = Math.max(deepest, depthOf(called, depths, open + 1));
                }
            }
        }
        depths.put(part, deepest + 1);
        return deepest + 1;
    }

    /** How many arguments a call has whose bracket was opened just ahead of a place. */
    private static int argumentsFrom(String body, int start) {
        int open = 1;
        int commas = 0;
        int at = start;
        while (open > 0) {
            char c = body.charAt(at);
            open += c == '(' ? 1 : c == ')' ? -1 : 0;
            commas += c == ',' && open == 1 ? 1 : 0;
            at++;
        }
        return body.charAt(start) == ')' ? 0 : commas + 1;
    }

    // ---- 12: what a run makes

    /** Once a desk is made, its calls make no object: what the run's room holds is the desk alone. */
    void rule12_callsMakeNothing() {
        if (!(ManagementFactory.getThreadMXBean() instanceof ThreadMXBean threads)
                || !threads.isThreadAllocatedMemorySupported()) {
            check.due("this machine does not tell", true, true);
            return;
        }
        CadenceDesk desk = Desks.told(Desks.longFilm(), "cadence 5;cadence 2 3;cadence 5 5 5 5 5 4;");
        askAll(desk, 0);
        long before = threads.getCurrentThreadAllocatedBytes();
        int answers = 0;
        for (int i = 0; i < 30; i++) {
            answers += askAll(desk, i);
        }
        long made = threads.getCurrentThreadAllocatedBytes() - before;
        check.due("answers", answers != 0, true);
        check.due("bytes made: " + made, made < 4096, true);
    }

    private static int askAll(CadenceDesk desk, int i) {
        int sum = desk.feed(i, i, i, i, i) + desk.film(5) + desk.rules(0) + desk.force(i % 3);
        sum += desk.carry(0, i % 2) + desk.cut(i, 2) + desk.doubled(i, 1) + desk.noise(i, 1) + desk.set(i, 0, i);
        sum += desk.field(i, 0) + desk.apart(0, i) + desk.path(i, 4) + desk.all(0) + desk.edit(0) + desk.group(0, 1);
        sum += desk.found(0, 0, 0) + desk.known(0) + desk.restored() + desk.costs(i % 3) + desk.guess(1);
        sum += desk.anew(1, 0, 0) + (desk.isClean(1) ? 1 : 0) + desk.undo() + desk.count(i % 12);
        return sum + desk.frame(i % 20, 0, 0) + desk.cadence(i % 3, 0);
    }
}
