import java.io.IOException;
import java.lang.reflect.Field;
import java.lang.reflect.Method;
import java.lang.reflect.Modifier;
import java.nio.file.Files;
import java.nio.file.Path;
import java.util.ArrayList;
import java.util.List;
import java.util.Set;
import java.util.TreeSet;
import java.util.regex.Matcher;
import java.util.regex.Pattern;

/** The class keeps to the document's face and to what of ../shared/LANGUAGE.md can be seen by looking. */
public final class LanguageTest {
    private static final Path SOURCE = Path.of("src/main/java/RainStreets.java");
    private static final Path DOCUMENT = Path.of("../shared/DOC.md");
    private static final Due due = new Due();

    public static void main(String[] args) throws IOException {
        String source = Files.readString(SOURCE);
        String code = bare(source);
        face();
        members();
        words(code);
        library(code);
        signs(source);
        methods(code);
        due.end();
    }

    /** The code without its comments and without what stands in quotes. */
    private static String bare(String source) {
        return source.replaceAll("(?s)/\\*.*?\\*/", "").replaceAll("//[^\n]*", "")
            .replaceAll("\"[^\"\n]*\"", "\"\"").replaceAll("'(\\\\.|[^'])'", "' '");
    }

    private static void face() throws IOException {
        String document = Files.readString(DOCUMENT);
        int at = document.indexOf("```java");
        String block = document.substring(at, document.indexOf("```", at + 3));
        Set<String> want = new TreeSet<>();
        Matcher m = Pattern.compile("public (\\w+) (\\w+)\\(([^)]*)\\);").matcher(block);
        while (m.find()) {
            String types = m.group(3).replaceAll("(\\w+) \\w+", "$1");
            want.add(m.group(1) + " " + m.group(2) + "(" + types + ")");
        }
        Set<String> got = new TreeSet<>();
        Set<String> publicNames = new TreeSet<>();
        for (Method method : RainStreets.class.getDeclaredMethods()) {
            if (!Modifier.isPrivate(method.getModifiers())) {
                List<String> types = new ArrayList<>();
                for (Class<?> type : method.getParameterTypes()) {
                    types.add(type.getName());
                }
                got.add(method.getReturnType().getName() + " " + method.getName() + "(" + String.join(", ", types) + ")");
                publicNames.add(method.getName());
                due.yes("public: " + method, Modifier.isPublic(method.getModifiers()));
            }
        }
        due.yes("the document's methods and no other: " + want + " " + got, want.equals(got) && want.size() == 35);
        due.is("constructors", RainStreets.class.getDeclaredConstructors().length, 1);
        due.yes("final", Modifier.isFinal(RainStreets.class.getModifiers()));
        List<Class<?>> classes = new ArrayList<>(List.of(RainStreets.class.getDeclaredClasses()));
        due.yes("at most twelve classes", classes.size() < 12);
        classes.add(RainStreets.class);
        for (Class<?> each : classes) {
            for (Method method : each.getDeclaredMethods()) {
                boolean own = each == RainStreets.class && Modifier.isPublic(method.getModifiers());
                due.yes("no private method with a public one's name: " + method, own || !publicNames.contains(method.getName()));
                due.yes("at most seven parameters: " + method, method.getParameterCount() <= 7);
            }
        }
    }

    private static void members() {
        List<Class<?>> classes = new ArrayList<>(List.of(RainStreets.class.getDeclaredClasses()));
        for (Class<?> each : classes) {
            int m = each.getModifiers();
            due.yes("static and not public: " + each, Modifier.isStatic(m) && !Modifier.isPublic(m) && !Modifier.isProtected(m));
        }
        classes.add(RainStreets.class);
        for (Class<?> each : classes) {
            int fields = 0;
            for (Field field : each.getDeclaredFields()) {
                int m = field.getModifiers();
                boolean constant = Modifier.isStatic(m);
                fields += constant ? 0 : 1;
                due.yes("static fields are final: " + field, !constant || Modifier.isFinal(m));
                boolean open = each == RainStreets.class && !Modifier.isPrivate(m);
                due.yes("NONE alone is open: " + field, !open || field.getName().equals("NONE"));
            }
            due.yes("some twenty fields: " + each + " " + fields, fields <= 20);
        }
    }

    private static void words(String code) {
        String[] none = {
            "throw", "throws", "try", "catch", "finally", "synchronized", "assert", "float", "double", "Object",
            "Exception", "hashCode", "toString", "null;\\s*\\}\\s*finally", "package", "System", "Thread", "native",
            "volatile", "interface", "extends", "yield", "var", "for \\(\\w+ \\w+ : "
        };
        for (String word : none) {
            due.no("no " + word, Pattern.compile("\\b" + word + "\\b").matcher(code).find());
        }
        due.no("no lambda", code.contains("->"));
        due.no("no method reference", code.contains("::"));
        due.no("no texts joined", Pattern.compile("\"\\s*\\+|\\+\\s*\"").matcher(code).find());
        due.no("no static block", Pattern.compile("static\\s*\\{").matcher(code).find());
    }

    private static void library(String code) {
        Matcher m = Pattern.compile("import ([\\w.]+);").matcher(code);
        while (m.find()) {
            due.yes("import " + m.group(1), Set.of("java.util.ArrayList", "java.util.Arrays").contains(m.group(1)));
        }
        m = Pattern.compile("\\b(Math|Integer|Long|Arrays)\\.(\\w+)").matcher(code);
        while (m.find()) {
            due.yes("library: " + m.group(), Set.of("min", "max", "abs", "bitCount", "fill").contains(m.group(2)));
        }
    }

    private static void signs(String source) {
        due.yes("signs of 1 to 126", source.chars().allMatch(c -> c == '\n' || c >= 32 && c < 127));
    }

    private static void methods(String code) {
        Matcher m = Pattern.compile("\n( {4}(?! )| {8}(?! ))[\\w<>\\[\\] ]+\\([^)]*\\)(?: \\{)\n(.*?)\n\\1\\}", Pattern.DOTALL).matcher(code);
        int many = 0;
        while (m.find()) {
            many++;
            due.yes("a method of some sixty lines: " + m.group().trim().split("\n")[0], m.group(2).split("\n").length <= 60);
        }
        due.yes("methods seen", many > 80);
    }
}
