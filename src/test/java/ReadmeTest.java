import java.io.IOException;
import java.lang.reflect.InvocationTargetException;
import java.lang.reflect.Method;
import java.lang.reflect.Modifier;
import java.nio.file.DirectoryStream;
import java.nio.file.Files;
import java.nio.file.Path;
import java.util.ArrayList;
import java.util.List;
import java.util.regex.Matcher;
import java.util.regex.Pattern;

/** What README.md says is so: the answers in its examples, its list of calls, its list of tests. */
public final class ReadmeTest {
    private static final Path README = Path.of("README.md");
    private static final Path TESTS = Path.of("src/test/java");

    private static final String NEW_DESK = "CadenceDesk desk = new CadenceDesk();";
    private static final Pattern CALL = Pattern.compile("desk\\.(\\w+)\\(([^)]*)\\);\\s*// ([-\\w]+)(:.*)?");

    private final Check check = new Check("ReadmeTest");
    private final List<String> lines;

    private ReadmeTest() throws IOException {
        lines = Files.readAllLines(README);
    }

    public static void main(String[] args) throws IOException, ReflectiveOperationException {
        ReadmeTest test = new ReadmeTest();
        test.examplesAnswerSo();
        test.eachCallIsListed();
        test.eachTestIsListed();
        test.theCommandRunsAll();
        test.eachPromiseHasATest();
        test.check.end();
    }

    private List<String> block(String language) {
        List<String> inside = new ArrayList<>();
        boolean isInside = false;
        for (String line : lines) {
            if (line.startsWith("```")) {
                isInside = line.equals("```" + language);
            } else if (isInside && !line.isBlank()) {
                inside.add(line);
            }
        }
        return inside;
    }

    // ---- the examples

    private void examplesAnswerSo() throws ReflectiveOperationException {
        CadenceDesk desk = null;
        List<String> called = new ArrayList<>();
        for (String line : block("java")) {
            if (line.equals(NEW_DESK)) {
                desk = new CadenceDesk();
            } else if (!line.startsWith("//")) {
                called.add(answerLine(desk, line));
            }
        }
        for (Method method : face()) {
            check.due("an example of " + method.getName(), called.contains(method.getName()), true);
        }
    }

    private String answerLine(CadenceDesk desk, String line) throws ReflectiveOperationException {
        Matcher call = CALL.matcher(line);
        boolean isCall = desk != null && call.matches();
        check.due("a call with its answer: " + line, isCall, true);
        if (!isCall) {
            return "";
        }
        String got = answer(desk, call.group(1), call.group(2));
        check.due(line + " got " + got, got.equals(call.group(3)), true);
        return call.group(1);
    }

    private static String answer(CadenceDesk desk, String name, String list) throws ReflectiveOperationException {
        String[] words = list.isEmpty() ? new String[0] : list.split(", ");
        Object[] numbers = new Object[words.length];
        Class<?>[] types = new Class<?>[words.length];
        for (int i = 0; i < words.length; i++) {
            numbers[i] = Integer.decode(words[i]);
            types[i] = int.class;
        }
        try {
            return String.valueOf(CadenceDesk.class.getMethod(name, types).invoke(desk, numbers));
        } catch (InvocationTargetException e) {
            return e.getCause().getClass().getSimpleName();
        }
    }

    // ---- the lists

    private static List<Method> face() {
        List<Method> methods = new ArrayList<>();
        for (Method method : CadenceDesk.class.getDeclaredMethods()) {
            if (Modifier.isPublic(method.getModifiers())) {
                methods.add(method);
            }
        }
        return methods;
    }

    private void eachCallIsListed() {
        List<String> listed = new ArrayList<>();
        Pattern form = Pattern.compile("`(\\w+)\\(([^)]*)\\)`");
        for (String line : lines) {
            Matcher call = form.matcher(line.startsWith("| `") ? line : "");
            while (call.find()) {
                int many = call.group(2).isEmpty() ? 0 : call.group(2).split(",").length;
                listed.add(call.group(1) + "/" + many);
            }
        }
        for (Method method : face()) {
            String form2 = method.getName() + "/" + method.getParameterCount();
            check.due("the list has " + form2, listed.remove(form2), true);
        }
        check.due("and no other: " + listed, listed.size(), 0);
    }

    private void eachTestIsListed() throws IOException {
        String page = String.join("\n", lines);
        try (DirectoryStream<Path> files = Files.newDirectoryStream(TESTS, "*.java")) {
            for (Path file : files) {
                String name = file.getFileName().toString().replace(".java", "");
                boolean isTest = name.endsWith("Test");
                boolean hasMain = Files.readString(file).contains("public static void main(");
                check.due(name + " is run by its name", hasMain, isTest);
                check.due(name + " is listed", !isTest || page.contains("`" + name + "`"), true);
            }
        }
        Matcher named = Pattern.compile("`(\\w+Test)`").matcher(page);
        while (named.find()) {
            check.due(named.group(1) + " is there", Files.exists(TESTS.resolve(named.group(1) + ".java")), true);
        }
    }

    private void theCommandRunsAll() throws IOException {
        check.due("the command", block("sh").equals(List.of(".ci/run")), true);
        Path command = Path.of(".ci/run");
        check.due("it can be run", Files.isExecutable(command), true);
        String text = Files.readString(command);
        check.due("the project's tests", text.contains("for test in src/test/java/*Test.java; do"), true);
        check.due("the shared tests", text.contains("for test in \"$shared\"/*.java; do"), true);
        check.due("which are there", text.contains("shared=../shared/tests\n"), true);
    }

    private void eachPromiseHasATest() {
        for (int promise = 1; promise <= 27; promise++) {
            String start = String.format("p%02d_", promise);
            int many = 0;
            for (Method method : PromiseTest.class.getDeclaredMethods()) {
                many += method.getName().startsWith(start) ? 1 : 0;
            }
            check.due("PromiseTest has promise " + promise, many > 0, true);
        }
    }
}
