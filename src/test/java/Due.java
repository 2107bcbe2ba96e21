import java.io.IOException;
import java.io.UncheckedIOException;
import java.nio.charset.StandardCharsets;
import java.nio.file.Files;
import java.nio.file.Path;

/** What a test expects: it prints what is not as due, and ends the test with exit code 1 if there was such. */
final class Due {
    private int right;
    private int wrong;
    private String document = "";
    private String sentence = "";

    /** Names the sentence of the document that the next answers hold to; it must stand there. */
    void says(String words) {
        sentence = "\"" + words + "\": ";
        document = document.isEmpty() ? document() : document;
        yes("the document says so", document.contains(words));
    }

    /** The document with one blank for each run of blanks and ends of lines. */
    static String document() {
        try {
            return Files.readString(Path.of("../shared/DOC.md")).replaceAll("\\s+", " ");
        } catch (IOException e) {
            throw new UncheckedIOException(e);
        }
    }

    void is(String call, long got, long want) {
        if (got == want) {
            right++;
        } else {
            wrong++;
            System.out.println(sentence + call + " answered " + got + ", due is " + want);
        }
    }

    void is(String call, boolean got, boolean want) {
        is(call, got ? 1 : 0, want ? 1 : 0);
    }

    void yes(String call, boolean got) {
        is(call, got, true);
    }

    void no(String call, boolean got) {
        is(call, got, false);
    }

    void none(String call, long got) {
        is(call, got, -1);
    }

    /** Each argument asked of, one by one, with the answers due. */
    interface Asked {
        long of(int what);
    }

    void row(String call, Asked asked, long... want) {
        for (int what = 0; what < want.length; what++) {
            is(call + " " + what, asked.of(what), want[what]);
        }
    }

    void end() {
        System.out.println(right + " answers as due, " + wrong + " not");
        if (wrong != 0 || right == 0) {
            System.exit(1);
        }
    }

    /** Feeds a text (with blanks behind it to the next twenty bytes) and answers its length. */
    static int fed(RainStreets x, String text) {
        return fed(x, text.getBytes(StandardCharsets.ISO_8859_1));
    }

    static int fed(RainStreets x, byte[] text) {
        for (int from = 0; from < text.length; from += 20) {
            int[] n = new int[5];
            for (int i = 0; i < 20; i++) {
                int b = from + i < text.length ? text[from + i] & 255 : ' ';
                n[i / 4] = n[i / 4] << 8 | b;
            }
            x.feed(n[0], n[1], n[2], n[3], n[4]);
        }
        return text.length;
    }

    /** Feeds a text and makes it the rules: what rules() answers. */
    static int ruled(RainStreets x, String text) {
        return x.rules(fed(x, text));
    }

    /** Lets many days go by, whatever their number. */
    static void passed(RainStreets x, int days) {
        for (int left = days; left > 0; left -= 100) {
            x.pass(Math.min(left, 100));
        }
    }
}
