import java.io.IOException;
import java.lang.reflect.Method;
import java.lang.reflect.Modifier;
import java.nio.file.Files;
import java.nio.file.Path;
import java.util.HashSet;
import java.util.List;
import java.util.Set;
import java.util.regex.Matcher;
import java.util.regex.Pattern;

/** The rules of ../shared/LANGUAGE.md that can be seen from the program's lines. */
final class LanguageTest {
    private static final Due DUE = new Due("LanguageTest");
    private static final String FORBIDDEN = "\\b(throw|throws|try|catch|synchronized|assert|import|package|double|float|lambda"
            + "|Exact|hashCode|System\\.out|System\\.exit|Object|Exception|volatile|transient|native|goto|protected)\\b|->|::";
    private static final Pattern METHOD =
            Pattern.compile("^ +(?:(?:public|private|static|final) )*[\\w\\[\\]]+ (\\w+)\\(([^)]*)\\) \\{$");
    private static final Pattern CONSTRUCTOR = Pattern.compile("^ +(?:public )?([A-Z]\\w+)\\([^)]*\\) \\{$");
    private static final Pattern CLASS = Pattern.compile("\\bclass (\\w+) \\{$");
    private static final Pattern FIELD = Pattern.compile("^ +(?:private )?(?:final )?[\\w\\[\\]]+ \\w+;$");

    public static void main(String[] args) throws IOException {
        List<String> lines = Files.readAllLines(Path.of("src/main/java/RightsHouse.java"));
        forbidden(lines);
        shapes(lines);
        DUE.end();
    }

    private static String code(String line) {
        String trimmed = line.trim();
        boolean isComment = trimmed.startsWith("//") || trimmed.startsWith("*") || trimmed.startsWith("/*");
        return isComment ? "" : line.replaceAll("\"[^\"]*\"", "\"\"");
    }

    private static void forbidden(List<String> lines) {
        Pattern pattern = Pattern.compile(FORBIDDEN);
        for (int i = 0; i < lines.size(); i++) {
            DUE.is("line " + (i + 1) + ": " + lines.get(i), pattern.matcher(code(lines.get(i))).find() ? 1 : 0, 0);
        }
    }

    /** Classes, fields, methods and where objects are made; each class and method begins and ends on a line of its own. */
    private static void shapes(List<String> lines) {
        int classes = 0;
        int fields = 0;
        Set<String> face = new HashSet<>();
        for (Method method : RightsHouse.class.getDeclaredMethods()) {
            if (Modifier.isPublic(method.getModifiers())) {
                face.add(method.getName());
            }
        }
        String inClass = "";
        String method = "";
        boolean isConstructor = false;
        int begin = 0;
        String end = "";
        for (int i = 0; i < lines.size(); i++) {
            String line = code(lines.get(i));
            Matcher newClass = CLASS.matcher(line);
            Matcher newMethod = METHOD.matcher(line);
            Matcher constructor = CONSTRUCTOR.matcher(line);
            if (newClass.find()) {
                DUE.is("fields of " + inClass, fields > 20 ? fields : 0, 0);
                classes++;
                fields = 0;
                inClass = newClass.group(1);
            } else if (method.isEmpty() && constructor.find()) {
                method = constructor.group(1);
                isConstructor = true;
                begin = i;
                end = line.replaceAll("\\S.*", "") + "}";
            } else if (method.isEmpty() && newMethod.find()) {
                method = newMethod.group(1);
                isConstructor = false;
                begin = i;
                end = line.replaceAll("\\S.*", "") + "}";
                int parameters = newMethod.group(2).isEmpty() ? 0 : newMethod.group(2).split(",").length;
                boolean isFace = line.contains(" public ");
                DUE.is(inClass + "." + method + " bears a public name", !isFace && face.contains(method) ? 1 : 0, 0);
                DUE.is("parameters of " + inClass + "." + method, parameters > 7 ? parameters : 0, 0);
            } else if (method.isEmpty()) {
                fields += FIELD.matcher(line).find() ? 1 : 0;
            }
            if (!method.isEmpty()) {
                DUE.is("line " + (i + 1) + " makes an object in a call", line.contains("new ") && !isConstructor ? 1 : 0, 0);
                if (line.equals(end)) {
                    DUE.is("lines of " + inClass + "." + method, i - begin > 60 ? i - begin : 0, 0);
                    method = "";
                }
            }
        }
        DUE.is("fields of " + inClass, fields > 20 ? fields : 0, 0);
        DUE.is("classes", classes > 12 ? classes : 0, 0);
    }
}
