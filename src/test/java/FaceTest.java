import java.io.IOException;
import java.lang.reflect.Constructor;
import java.lang.reflect.Field;
import java.lang.reflect.Method;
import java.lang.reflect.Modifier;
import java.nio.charset.StandardCharsets;
import java.nio.file.Files;
import java.nio.file.Path;
import java.util.Set;
import java.util.TreeSet;
import java.util.regex.Matcher;
import java.util.regex.Pattern;

/** The public face is the document's, and the source keeps to those rules of LANGUAGE.md that a glance can tell. */
public final class FaceTest {
    private static final Check check = new Check("FaceTest");

    public static void main(String[] args) throws IOException {
        Path shared = Path.of(System.getProperty("shared", "../shared"));
        faceIsTheDocuments(Files.readString(shared.resolve("DOC.md"), StandardCharsets.UTF_8));
        nothingElseIsVisible();
        sourceKeepsRules(Files.readString(Path.of("src/main/java/SorryWalk.java"), StandardCharsets.UTF_8));
        check.end();
    }

    private static void faceIsTheDocuments(String document) {
        int begin = document.indexOf("public final class SorryWalk {");
        String face = document.substring(begin, document.indexOf("```", begin));
        Set<String> want = new TreeSet<>();
        Matcher m = Pattern.compile("public (int|long|boolean) (\\w+)\\(([^)]*)\\);").matcher(face);
        while (m.find()) {
            want.add(m.group(1) + " " + m.group(2) + "(" + m.group(3).replaceAll(" \\w+(?=,|$)", "") + ")");
        }
        Set<String> have = new TreeSet<>();
        for (Method method : SorryWalk.class.getDeclaredMethods()) {
            if (Modifier.isPublic(method.getModifiers())) {
                StringBuilder b = new StringBuilder(method.getReturnType() + " " + method.getName() + "(");
                for (Class<?> type : method.getParameterTypes()) {
                    b.append(b.charAt(b.length() - 1) == '(' ? "" : ", ").append(type);
                }
                have.add(b.append(")").toString());
            }
        }
        check.due("methods in the document", want.size(), 70);
        for (String method : want) {
            check.due("has " + method, have.contains(method), true);
        }
        for (String method : have) {
            check.due("is promised " + method, want.contains(method), true);
        }
        check.due("NONE", SorryWalk.NONE, -1);
        check.due("final", Modifier.isFinal(SorryWalk.class.getModifiers()), true);
    }

    private static void nothingElseIsVisible() {
        Set<String> names = new TreeSet<>();
        for (Method method : SorryWalk.class.getDeclaredMethods()) {
            if (Modifier.isPublic(method.getModifiers())) {
                names.add(method.getName());
            }
        }
        for (Method method : SorryWalk.class.getDeclaredMethods()) {
            int is = method.getModifiers();
            check.due(method + " is public or private", Modifier.isPublic(is) || Modifier.isPrivate(is), true);
            check.due(method + " has no public namesake", Modifier.isPrivate(is) && names.contains(method.getName()), false);
            check.due(method + " has at most 7 parameters", method.getParameterCount() <= 7, true);
        }
        for (Field field : SorryWalk.class.getDeclaredFields()) {
            check.due(field + " is private, but NONE", Modifier.isPrivate(field.getModifiers()), !field.getName().equals("NONE"));
        }
        for (Constructor<?> made : SorryWalk.class.getDeclaredConstructors()) {
            check.due(made + " is the one", Modifier.isPublic(made.getModifiers()) && made.getParameterCount() == 0, true);
        }
        int classes = 1;
        for (Class<?> inside : SorryWalk.class.getDeclaredClasses()) {
            classes++;
            check.due(inside + " is static", Modifier.isStatic(inside.getModifiers()), true);
            int fields = 0;
            for (Field field : inside.getDeclaredFields()) {
                fields += Modifier.isStatic(field.getModifiers()) ? 0 : 1;
            }
            check.due(inside + " has some twenty fields at most", fields <= 20, true);
            for (Method method : inside.getDeclaredMethods()) {
                check.due(method + " has no public namesake", names.contains(method.getName()), false);
            }
        }
        check.due("at most some twelve classes", classes <= 12, true);
    }

    private static void sourceKeepsRules(String source) {
        String bare = source.replaceAll("(?s)/\\*.*?\\*/", " ").replaceAll("//[^\\n]*", " ").replaceAll("\"[^\"\\n]*\"", "\"\"");
        for (String word : "throw try catch finally synchronized assert package protected Exception Object".split(" ")) {
            check.due("the source has " + word, Pattern.compile("\\b" + word + "\\b").matcher(bare).find(), false);
        }
        for (String sign : new String[] {"->", "::", "System.out", "System.exit", "Exact(", "\" +", "+ \"", "while (true)", "for (;;)"}) {
            check.due("the source has " + sign, bare.contains(sign), false);
        }
        Matcher imports = Pattern.compile("import ([^;]*);").matcher(bare);
        while (imports.find()) {
            check.due("imports " + imports.group(1), imports.group(1).equals("java.util.Arrays"), true);
        }
        check.due("methods of at most some sixty lines: the longest has", Math.max(60, longestMethod(source)), 60);
        for (int i = 0; i < source.length(); i++) {
            if (source.charAt(i) > 126) {
                check.due("a sign beyond 126 at " + i, source.charAt(i), 0);
            }
        }
    }

    private static int longestMethod(String source) {
        int longest = 0;
        int begin = -1;
        String indent = "";
        String[] lines = source.split("\n");
        for (int i = 0; i < lines.length; i++) {
            Matcher m = Pattern.compile("^( {4}| {8})(?!.*\\bclass\\b)[a-zA-Z].*\\) \\{$").matcher(lines[i]);
            if (begin < 0 && m.find()) {
                begin = i;
                indent = m.group(1);
            } else if (begin >= 0 && lines[i].equals(indent + "}")) {
                longest = Math.max(longest, i - begin + 1);
                begin = -1;
            }
        }
        return longest;
    }
}
