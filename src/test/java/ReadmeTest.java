import java.io.IOException;
import java.nio.ByteBuffer;
import java.nio.charset.StandardCharsets;
import java.nio.file.Files;
import java.nio.file.Path;

/** README.md's examples stand here line by line, and answer as it says; it names each call. */
public final class ReadmeTest {
    private static final Due due = new Due();

    public static void main(String[] args) throws IOException {
        example();
        same();
        names();
        due.end();
    }

    private static void example() {
        RainStreets x = new RainStreets();
        int above = x.corner(10, 100, 5, 0);
        int under = x.corner(20, 60, 8, 150);
        x.below(above, under);
        x.roof(above, 3, 4, 30);
        x.rain(10);
        long spills = x.tried(0, 0);
        long fewer = x.tried(1 << above, 0);
        long corners = x.best(1, 9999, 0, 1);
        x.bed(above, 0, 80, true);
        int storm = x.storm();
        long spilt = x.stormOf(storm, 2);
        int today = x.pass(1);
        int clog = x.bedOf(above, 4);
        due.is("spills", spills, 250);
        due.is("fewer", fewer, 150);
        due.is("corners", corners, 1);
        due.is("storm", storm, 0);
        due.is("spilt", spilt, 170);
        due.is("today", today, 1);
        due.is("clog", clog, 1);
        byte[] text = "clog 5; owe 1;      ".getBytes(StandardCharsets.ISO_8859_1);
        ByteBuffer four = ByteBuffer.wrap(text);
        x.feed(four.getInt(), four.getInt(), four.getInt(), four.getInt(), four.getInt());
        int rules = x.rules(14);
        int place = x.fault();
        int old = x.law(0, 0);
        int now = x.law(1, 0);
        due.is("rules", rules, 0);
        due.none("place", place);
        due.is("old", old, 2);
        due.is("now", now, 5);
    }

    /** Each line of the README's examples, in its order, and each answer that it tells. */
    private static void same() throws IOException {
        String[] here = Files.readString(Path.of("src/test/java/ReadmeTest.java")).split("\n");
        String source = String.join("\n", here);
        boolean inside = false;
        int at = 0;
        int many = 0;
        for (String line : Files.readAllLines(Path.of("README.md"))) {
            if (line.startsWith("```")) {
                inside = line.equals("```java");
                continue;
            }
            if (!inside) {
                continue;
            }
            many++;
            String code = line.replaceAll(" *//.*", "").trim();
            while (at < here.length && !here[at].trim().equals(code)) {
                at++;
            }
            due.yes("runs here: " + code, at < here.length);
            if (line.matches("(int|long) \\w+ = .*// \\d+(:.*)?")) {
                String want = line.replaceAll("\\w+ (\\w+) = .*// (\\d+).*", "due.is(\"$1\", $1, $2);");
                due.yes("asked here: " + want, source.contains(want));
            }
        }
        due.is("lines of the examples", many, 21);
    }

    private static void names() throws IOException {
        String readme = Files.readString(Path.of("README.md"));
        for (java.lang.reflect.Method method : RainStreets.class.getDeclaredMethods()) {
            if (java.lang.reflect.Modifier.isPublic(method.getModifiers())) {
                due.yes("names " + method.getName(), readme.contains("`" + method.getName() + "`"));
            }
        }
    }
}
