import java.io.IOException;
import java.lang.reflect.Field;
import java.lang.reflect.Method;
import java.lang.reflect.Modifier;
import java.nio.file.Files;
import java.nio.file.Path;
import java.util.List;
import java.util.Set;
import java.util.regex.Matcher;
import java.util.regex.Pattern;
import java.util.stream.Collectors;
import java.util.stream.Stream;

/** The rules of ../shared/LANGUAGE.md that can be seen from the text of the class and from what it declares. */
public final class LanguageTest extends Answers {
    private static final Path FOLDER = Path.of("src/main/java");
    private static final Path FILE = FOLDER.resolve("FatBalance.java");
    private static final Set<String> NAMES = Set.of("FatBalance", "Separator", "Mixture", "Math");
    private static final Set<String> FUNCTIONS = Set.of("max", "min", "abs", "floorDiv", "floorMod");
    private static final Pattern FORBIDDEN = Pattern.compile(
        "\\b(package|import|throws?|try|catch|finally|synchronized|assert|protected|native|volatile|transient|\\w+Exact)\\b|->|::|@");
    private static final Pattern METHOD = Pattern.compile("^ +[\\w \\[\\]]+\\([^)]*\\) \\{$", Pattern.MULTILINE);

    public static void main(String[] args) throws IOException {
        String text = Files.readString(FILE);
        String code = withoutComments(text);
        oneFile(text);
        nothingForbidden(code);
        onlyItsOwnNames(code);
        nothingIsMadeByACall(code);
        methodsAreShort(code);
        classesInside();
        end();
    }

    private static String withoutComments(String text) {
        return text.replaceAll("(?s)/\\*.*?\\*/", "").replaceAll("//[^\n]*", "");
    }

    private static void oneFile(String text) throws IOException {
        sentence("The program is one file");
        try (Stream<Path> files = Files.walk(FOLDER)) {
            List<Path> found = files.filter(Files::isRegularFile).collect(Collectors.toList());
            due("files " + found, found.equals(List.of(FILE)), true);
        }
        sentence("rule 3: Texts hold characters 0 to 255 alone");
        due("all characters", text.chars().allMatch(c -> c <= 255), true);
    }

    private static void nothingForbidden(String code) {
        sentence("rules 2, 4, 6: no throw, try, catch, lambda, method reference, nor a function whose name ends in Exact");
        Matcher found = FORBIDDEN.matcher(code);
        while (found.find()) {
            due("'" + found.group() + "' stands there", true, false);
        }
        sentence("rule 10: texts are not joined by +");
        due("no texts at all", code.contains("\""), false);
    }

    private static void onlyItsOwnNames(String code) {
        sentence("rules 3, 4: no library but what stands there");
        Matcher name = Pattern.compile("\\b[A-Z]\\w*[a-z]\\w*\\b").matcher(code);
        while (name.find()) {
            due("'" + name.group() + "' stands there", NAMES.contains(name.group()), true);
        }
        Matcher function = Pattern.compile("\\bMath\\.(\\w+)").matcher(code);
        while (function.find()) {
            due("Math." + function.group(1), FUNCTIONS.contains(function.group(1)), true);
        }
    }

    private static void nothingIsMadeByACall(String code) {
        sentence("rule 12: keep it small: only a new object makes objects and rows");
        for (String line : code.split("\n")) {
            if (line.contains("new ") || line.contains("clone(")) {
                due(line.trim(), line.trim().startsWith("private final "), true);
            }
        }
    }

    private static void methodsAreShort(String code) {
        sentence("rule 11: at most seven parameters, some sixty lines");
        Matcher method = METHOD.matcher(code);
        int seen = 0;
        while (method.find()) {
            seen++;
            String head = method.group();
            int end = code.indexOf("\n" + head.substring(0, head.indexOf(head.trim())) + "}", method.end());
            due(head.trim() + " has an end", end >= 0, true);
            due(head.trim() + " is short", code.substring(method.start(), Math.max(end, method.start())).lines().count() <= 60, true);
            due(head.trim() + " has few parameters", head.split(",").length <= 7, true);
        }
        due("methods were seen", seen > 40, true);
    }

    private static void classesInside() {
        Class<?>[] inside = FatBalance.class.getDeclaredClasses();
        sentence("rule 11: at most some twelve classes");
        due("classes", inside.length <= 11, true);
        fieldsOf(FatBalance.class);
        noPrivateMethodBearsAPublicName();
        for (Class<?> one : inside) {
            sentence("rules 1, 2: classes inside are private or package-visible and static");
            due(one.getName() + " is static", Modifier.isStatic(one.getModifiers()), true);
            due(one.getName() + " is hidden", (one.getModifiers() & (Modifier.PUBLIC | Modifier.PROTECTED)) == 0, true);
            due(one.getName() + " has no class inside", one.getDeclaredClasses().length, 0);
            fieldsOf(one);
        }
    }

    private static void fieldsOf(Class<?> type) {
        int fields = 0;
        for (Field field : type.getDeclaredFields()) {
            boolean isStatic = Modifier.isStatic(field.getModifiers());
            fields += isStatic ? 0 : 1;
            sentence("rule 5: Static fields are final: constants");
            boolean isConstant = Modifier.isFinal(field.getModifiers()) && field.getType().isPrimitive();
            due(field.getName(), !isStatic || isConstant, true);
        }
        sentence("rule 11: a class some twenty fields beside its constants");
        due("fields of " + type.getName(), fields <= 20, true);
    }

    private static void noPrivateMethodBearsAPublicName() {
        sentence("rule 1: No private method bears the name of a public one");
        Set<String> names = Stream.of(FatBalance.class.getMethods()).map(Method::getName).collect(Collectors.toSet());
        for (Class<?> type : Stream.concat(Stream.of(FatBalance.class), Stream.of(FatBalance.class.getDeclaredClasses())).toList()) {
            for (Method method : type.getDeclaredMethods()) {
                due(method.toString(), !Modifier.isPublic(method.getModifiers()) && names.contains(method.getName()), false);
            }
        }
    }
}
