import java.util.Arrays;
import java.util.List;

/** The sentences on the tape and the rules that name a bound, each by its name: promises 31 to 34. */
public final class EdgesOfRulesTest {
    private static final Due due = new Due();
    /** Each statement: "#" is any number, "+" one of 1 at least, "G" one of 0 to 3. */
    private static final String[] SHAPES = {
        "turn # at # every + from # ;", "clog # ;", "leaves # to # ;", "owe # ;", "parking # ;", "salt # ;",
        "stand # ;", "fee # credit # bed # ;", "cost # bowl # ;", "doubt # ;", "look G from # to # ;"
    };
    private static final String[] TOKENS = {
        "turn", "at", "every", "from", "clog", "leaves", "to", "owe", "parking", "salt", "stand", "fee", "credit",
        "bed", "cost", "bowl", "doubt", "look", ";", "1", "0", "4", "10000", "00000", "a", "clogs", "clo", "\t", "A", "-"
    };
    private static final int[] BARE = {
        2, 250, 320, 3, 20, 30, 3, 5, 2, 10, 50, 1, 10, 80, 100, 50, 80, 20, 50, 0, 20, 0, -1
    };

    public static void main(String[] args) {
        fed();
        fullTape();
        bytesOfNumbers();
        lengthsOfRules();
        tooMany();
        tenRules();
        faulty();
        faultAsked();
        blanks();
        bytesInside();
        broken();
        wrongTokens();
        digits();
        every();
        grades();
        longTexts();
        statements();
        bare();
        eachAlone();
        lasts();
        fromTodayOn();
        lawAsked();
        meaningless();
        turnsAsked();
        due.end();
    }

    /** The place of the fault; NONE where the text is taken. What rules() and law() tell must go with it. */
    private static int faultOf(String text) {
        RainStreets x = new RainStreets();
        int n = Due.ruled(x, text);
        boolean taken = n == 0 && x.fault() == -1 && x.count(7) == 1 && x.law(0, 22) == 0;
        boolean refused = n == -1 && x.fault() >= 0 && x.count(7) == 0 && x.law(0, 22) == -1;
        due.yes("rules, fault and law go together: " + text, taken || refused);
        due.is("the tape is empty: " + text, x.count(12), 0);
        return x.fault();
    }

    private static void fed() {
        due.says("Twenty bytes come behind those on the tape, of each number the highest first: how many there are.");
        RainStreets x = new RainStreets();
        due.is("none", x.count(12), 0);
        for (int many = 20; many <= 700; many += 20) {
            due.is("twenty more", x.feed(0, 0, 0, 0, 0), many);
            due.is("on the tape", x.count(12), many);
        }
        due.none("700 and twenty", x.feed(0, 0, 0, 0, 0));
        due.is("still", x.count(12), 700);
    }

    private static void fullTape() {
        due.says("NONE, doing nothing: there would be more than 700.");
        Twins.none(due, "700 and twenty", Twins::full, x -> x.feed(0, 0, 0, 0, 0));
        Twins.none(due, "700 and twenty that are rules", Twins::full,
            x -> x.feed(0x636c6f67, 0x20393b20, 0x20202020, 0x20202020, 0x20202020));
        RainStreets x = new RainStreets();
        String text = " ".repeat(693) + "clog 9;";
        due.is("700 bytes", Due.fed(x, text), 700);
        due.is("700 of 700", x.rules(700), 0);
        due.is("the last byte counts", x.law(0, 0), 9);
        due.is("twenty again", x.feed(0, 0, 0, 0, 0), 20);
        due.is("a text of 700 bytes that breaks off", faultOf(" ".repeat(693) + "clog 99"), 700);
        due.is("a text of 700 bytes with a fault at its last", faultOf(" ".repeat(692) + "clog 9;;"), 699);
    }

    private static void bytesOfNumbers() {
        due.says("of each number the highest first");
        // "owe 1234;owe 43;": each number has four bytes.
        RainStreets x = new RainStreets();
        x.feed(0x6f776520, 0x31323334, 0x3b6f7765, 0x2034333b, 0x20202020);
        due.is("sixteen bytes", x.rules(16), 0);
        due.is("43", x.law(0, 3), 43);
        // Bytes 128 to 255 are no other bytes, wherever in a number they stand.
        int[][] high = {{0x80202020, 0}, {0x20802020, 1}, {0x20208020, 2}, {0x20202080, 3}, {0xffffffff, 0},
            {0xa0202020, 0}, {0x20a02020, 1}, {0x202020a0, 3}, {0x2020208a, 3}, {0x20202000, 3}, {0x20202020, 20}};
        for (int[] bytes : high) {
            RainStreets y = new RainStreets();
            due.is("fed", y.feed(bytes[0], 0x20202020, 0x20202020, 0x20202020, 0x20202020), 20);
            due.is("rules", y.rules(20), bytes[1] == 20 ? 0 : -1);
            due.is("place of " + bytes[0], y.fault(), bytes[1] == 20 ? -1 : bytes[1]);
        }
        for (int place = 0; place < 5; place++) {
            RainStreets y = new RainStreets();
            int[] n = {0x20202020, 0x20202020, 0x20202020, 0x20202020, 0x20202020};
            n[place] = Integer.MIN_VALUE;
            y.feed(n[0], n[1], n[2], n[3], n[4]);
            due.none("rules", y.rules(20));
            due.is("the least number's place", y.fault(), 4 * place);
        }
    }

    private static void lengthsOfRules() {
        due.says("The first n bytes of the tape (which is empty then) are THE RULES from TODAY on: their number.");
        String text = "clog 1;clog 2;      ";
        int[][] lengths = {{0, 2}, {7, 1}, {14, 2}, {15, 2}, {20, 2}};
        for (int[] length : lengths) {
            RainStreets x = new RainStreets();
            Due.fed(x, text);
            due.is("the first " + length[0], x.rules(length[0]), 0);
            due.is("clog", x.law(0, 0), length[1]);
            due.is("the tape is empty", x.count(12), 0);
            due.is("so there's none behind", x.rules(1), -2);
        }
        for (int n = 1; n < 14; n++) {
            RainStreets x = new RainStreets();
            Due.fed(x, text);
            due.is("the first " + n, x.rules(n), n == 7 ? 0 : -1);
            due.is("more must come", x.fault(), n == 7 ? -1 : n < 4 ? 0 : n > 7 && n < 11 ? 7 : n);
            due.is("the tape is empty", x.count(12), 0);
        }
        RainStreets x = new RainStreets();
        due.is("none of an empty tape", x.rules(0), 0);
        due.is("their number", x.law(0, 22), 0);
    }

    private static void tooMany() {
        due.says("NONE: a FAULT; -2, doing nothing: n is below 0 or more than there are; -3, doing nothing: there are 10.");
        int[] wrong = {-1, 21, -2, -3, 40, Integer.MIN_VALUE, Integer.MAX_VALUE};
        Twins.Made twenty = () -> {
            RainStreets x = new RainStreets();
            x.corner(1, 1, 0, 0);
            Due.ruled(x, "clog 7; owe;");
            Due.fed(x, "clog 8;");
            return x;
        };
        for (int n : wrong) {
            Twins.refused(due, "n " + n + " of 20", twenty, -2, x -> x.rules(n));
        }
        Twins.refused(due, "21 of 20", Twins::lively, -2, x -> x.rules(21));
        Twins.refused(due, "-1", Twins::lively, -2, x -> x.rules(-1));
        due.is("20 of 20", twenty.made().rules(20), 0);
        Twins.refused(due, "1 of none", Twins::empty, -2, x -> x.rules(1));
        Twins.refused(due, "-1 of none", Twins::empty, -2, x -> x.rules(-1));
        RainStreets x = Twins.full();
        due.is("701 of 700", x.rules(701), -2);
        due.is("-1 where there are ten", x.rules(-1), -2);
    }

    private static void tenRules() {
        due.says("Taken (up to 10) they're in force from TODAY on (ahead of the first: bare).");
        RainStreets x = new RainStreets();
        for (int rules = 0; rules < 10; rules++) {
            due.none("a fault is none of the ten", Due.ruled(x, "clog"));
            due.is("taken", Due.ruled(x, "clog " + rules + ";"), rules);
            due.is("in force", x.law(0, 0), rules);
            due.is("how many", x.count(7), rules + 1);
        }
        Due.fed(x, "clog 77;");
        due.is("an 11th", x.rules(20), -3);
        due.is("the tenth stays in force", x.law(0, 0), 9);
        due.says("-3, doing nothing: there are 10.");
        Twins.refused(due, "an 11th", Twins::full, -3, y -> y.rules(700));
        Twins.refused(due, "an 11th of no bytes", Twins::full, -3, y -> y.rules(0));
        Twins.Made faulty = () -> {
            RainStreets y = new RainStreets();
            for (int rules = 0; rules < 10; rules++) {
                y.rules(0);
            }
            Due.fed(y, "clog");
            return y;
        };
        Twins.refused(due, "an 11th with a fault", faulty, -3, y -> y.rules(20));
        due.none("its fault isn't told", faulty.made().fault());
    }

    private static void faulty() {
        due.says("NONE: a FAULT;");
        RainStreets x = new RainStreets();
        x.pass(3);
        due.is("taken", Due.ruled(x, "clog 7; turn 1 at 0 every 1 from 0;"), 0);
        due.none("a fault behind much that is right", Due.ruled(x, "clog 8; turn 2 at 0 every 1 from 0; owe 9; salt"));
        due.is("the former stay in force", x.law(3, 0), 7);
        due.is("their turns too", x.law(3, 21), 1);
        due.is("bare stays bare", x.law(2, 0), 2);
        due.is("one is there", x.count(7), 1);
        due.is("the tape is empty", x.count(12), 0);
        Twins.faulty(due, "a fault", Twins::lively, -1, y -> y.rules(3));
        Twins.faulty(due, "the first fault", EdgesOfRulesTest::withBed, -1, y -> y.rules(20));
        Twins.faulty(due, "a fault at 0", () -> taped("; clog 5;"), -1, y -> y.rules(9));
        due.is("its place", faultIn(taped("; clog 5;")), 0);
        Twins.faulty(due, "a fault at the end", () -> taped("clog 5"), -1, y -> y.rules(6));
        due.is("its place, with the blanks behind", faultIn(taped("clog 5")), 20);
    }

    /** A bed of lot 0 in its first rain, and a text that breaks off. */
    private static RainStreets withBed() {
        RainStreets x = new RainStreets();
        x.corner(50, 20, 0, 0);
        x.corner(50, 20, 0, 0);
        x.bed(0, 0, 500, false);
        x.rain(9);
        Due.fed(x, "owe 1; salt");
        return x;
    }

    private static RainStreets taped(String text) {
        RainStreets x = Twins.lively();
        x.rules(0);
        Due.fed(x, text);
        return x;
    }

    private static int faultIn(RainStreets x) {
        x.rules(x.count(12));
        return x.fault();
    }

    private static void faultAsked() {
        due.says("The FAULT's place of the latest rules() that was a number or NONE; NONE: it had none.");
        RainStreets x = new RainStreets();
        due.none("no rules yet", x.fault());
        Due.ruled(x, ";");
        due.is("place 0", x.fault(), 0);
        due.is("-2", x.rules(1), -2);
        due.is("-2", x.rules(-1), -2);
        due.is("as it was behind -2", x.fault(), 0);
        Due.ruled(x, "clog 1");
        due.is("the latest", x.fault(), 6);
        x.feed(0, 0, 0, 0, 0);
        x.pass(1);
        due.is("as it was behind other calls", x.fault(), 6);
        due.is("none of it", x.rules(0), 0);
        due.none("it had none", x.fault());
        for (int rules = 1; rules < 9; rules++) {
            x.rules(0);
        }
        Due.ruled(x, "owe 1;;");
        due.is("a fault", x.fault(), 6);
        due.is("the tenth", x.rules(0), 9);
        due.none("it had none", x.fault());
    }

    private static void blanks() {
        due.says("between them blanks (bytes 32 and 10)");
        for (int b = 0; b < 256; b++) {
            boolean blank = b == 32 || b == 10;
            boolean digit = b >= '0' && b <= '9';
            boolean letter = b >= 'a' && b <= 'z';
            char sign = (char) b;
            due.is("byte " + b + " first", faultOf(sign + "clog 5;"), blank ? -1 : 0);
            due.is("byte " + b + " behind a word", faultOf("clog" + sign + "5;"), blank || digit ? -1 : letter ? 0 : 4);
            due.is("byte " + b + " ahead of the sign", faultOf("clog 5" + sign + ";"),
                blank || digit ? -1 : b == ';' ? 7 : 6);
            due.is("byte " + b + " last", faultOf("clog 5;" + sign), blank ? -1 : 7);
            due.is("byte " + b + " alone", faultOf("" + sign), blank ? -1 : 0);
        }
        due.none("nothing", faultOf(""));
        due.none("blanks alone", faultOf("\n \n\n  "));
        due.none("many between all", faultOf(" \n clog \n\n 5 \n  ; \n "));
        due.none("none where a word meets a number", faultOf("turn1at2every3from4;look0from1to2;clog5;"));
    }

    private static void bytesInside() {
        due.says("Tokens as long as they go: words of letters a to z, digits, \";\"");
        for (int b = 0; b < 256; b++) {
            boolean digit = b >= '0' && b <= '9';
            due.is("byte " + b + " in a word", faultOf("cl" + (char) b + "og 5;"), 0);
            due.is("byte " + b + " in a number", faultOf("clog 5" + (char) b + "5;"), digit ? -1
                : b == ';' ? 7 : b == ' ' || b == '\n' ? 7 : 6);
        }
        due.is("a word goes on", faultOf("clogowe 5;"), 0);
        due.is("a word goes on to z", faultOf("leaves 1 toz 2;"), 9);
        due.is("a number goes on", faultOf("clog 5 5;"), 7);
        due.is("a number of a blank inside", faultOf("clog 1\n2;"), 7);
        due.is("each sign by itself", faultOf("clog 5;;"), 7);
        due.none("a sign next to a word", faultOf("clog 5;owe 3;"));
    }

    private static String[] tokens(String shape) {
        return shape.replaceAll("[#+G]", "1").split(" ");
    }

    private static void broken() {
        due.says("the text's length, if more must come;");
        for (String shape : SHAPES) {
            String[] tokens = tokens(shape);
            StringBuilder text = new StringBuilder("owe 1; ");
            for (int i = 0; i < tokens.length - 1; i++) {
                text.append(tokens[i]);
                due.is("breaks off: " + text, faultOf(text.toString()), text.length());
                due.is("breaks off with blanks behind: " + text, faultOf(text + " \n "), text.length() + 3);
                text.append(' ');
            }
            due.none("whole: " + text, faultOf(text + ";"));
            due.none("whole with blanks behind", faultOf(text + "; \n "));
        }
    }

    private static boolean goes(String shape, String token) {
        switch (shape) {
            case "#": return token.matches("[0-9]{1,4}");
            case "+": return token.matches("[0-9]{1,4}") && Integer.parseInt(token) >= 1;
            case "G": return token.matches("[0-9]{1,4}") && Integer.parseInt(token) <= 3;
            default: return shape.equals(token);
        }
    }

    private static void wrongTokens() {
        due.says("FAULT: the place of the first byte of the first token (or byte that begins none) with which no such text goes on (a number beyond its bounds, too)");
        for (String shape : SHAPES) {
            String[] parts = shape.split(" ");
            for (int i = 1; i < parts.length; i++) {
                for (String wrong : TOKENS) {
                    String[] tokens = tokens(shape);
                    String ahead = "owe 1;\n" + String.join(" ", Arrays.copyOf(tokens, i)) + "  ";
                    tokens[i] = wrong;
                    String behind = String.join(" ", Arrays.copyOfRange(tokens, i, tokens.length));
                    int want = goes(parts[i], wrong) ? -1 : ahead.length();
                    due.is("token " + i + " of: " + ahead + behind, faultOf(ahead + behind), want);
                    due.is("last: " + ahead + wrong, faultOf(ahead + wrong),
                        want != -1 ? want : i == parts.length - 1 ? -1 : (ahead + wrong).length());
                }
            }
        }
        List<String> first = List.of("turn", "clog", "leaves", "owe", "parking", "salt", "stand", "fee", "cost", "doubt", "look");
        for (String token : TOKENS) {
            due.is("first: " + token, faultOf("owe 1; " + token), first.contains(token) ? 7 + token.length() : 7);
        }
    }

    private static void digits() {
        due.says("NUMBER: one to four digits");
        for (String shape : SHAPES) {
            String[] parts = shape.split(" ");
            for (int i = 0; i < parts.length; i++) {
                String[] numbers = parts[i].equals("#") ? new String[] {"0", "9", "00", "99", "000", "999", "0000", "0009", "9999"}
                    : parts[i].equals("+") ? new String[] {"1", "01", "0001", "9", "9999"}
                    : parts[i].equals("G") ? new String[] {"0", "00", "0000", "3", "03", "0003"} : new String[0];
                for (String number : numbers) {
                    due.none("taken: " + number, faultOf(with(shape, i, number)));
                }
                for (int many = 5; many <= 20 && numbers.length > 0; many++) {
                    String least = with(shape, i, "0".repeat(many - 1) + "1");
                    due.is("of too many digits: " + least, faultOf(least), least.indexOf("0000"));
                    String great = with(shape, i, "9".repeat(many));
                    due.is("of too many digits: " + great, faultOf(great), great.indexOf("9999"));
                }
            }
        }
        due.says("one to four digits; of \"every\" 1 at least, of \"look\" the first 0 to 3");
        RainStreets x = new RainStreets();
        Due.ruled(x, "clog 9999; owe 0; salt 0000; stand 0042; parking 1000; doubt 0999;");
        due.is("9999", x.law(0, 0), 9999);
        due.is("0", x.law(0, 3), 0);
        due.is("1000", x.law(0, 4), 1000);
        due.is("0000", x.law(0, 5), 0);
        due.is("0042", x.law(0, 6), 42);
        due.is("0999", x.law(0, 12), 999);
    }

    /** A statement with one token put in a place of it. */
    private static String with(String shape, int place, String token) {
        String[] tokens = tokens(shape);
        tokens[place] = token;
        return String.join(" ", tokens);
    }

    private static void every() {
        due.says("of \"every\" 1 at least");
        for (String number : new String[] {"0", "00", "000", "0000"}) {
            due.is("every " + number, faultOf("turn 1 at 2 every " + number + " from 3;"), 18);
        }
        for (String number : new String[] {"1", "0001", "2", "9999"}) {
            due.none("every " + number, faultOf("turn 1 at 2 every " + number + " from 3;"));
        }
        due.none("all others 0", faultOf("turn 0 at 0 every 1 from 0;"));
    }

    private static void grades() {
        due.says("of \"look\" the first 0 to 3");
        for (int grade = 0; grade <= 3; grade++) {
            RainStreets x = new RainStreets();
            due.is("look " + grade, Due.ruled(x, "look " + grade + " from 7 to 8;"), 0);
            for (int what = 13; what <= 20; what++) {
                int from = 13 + 2 * grade;
                due.is("law " + what, x.law(0, what), what == from ? 7 : what == from + 1 ? 8 : BARE[what]);
            }
        }
        for (String number : new String[] {"4", "04", "0004", "9", "10", "9999"}) {
            due.is("look " + number, faultOf("look " + number + " from 1 to 2;"), 5);
        }
        due.none("the others to 9999", faultOf("look 3 from 9999 to 9999;"));
        due.none("the others from 0", faultOf("look 0 from 0 to 0;"));
    }

    private static void longTexts() {
        due.says("At most 24 statements.");
        for (String shape : SHAPES) {
            String one = String.join(" ", tokens(shape)).replace(" ;", ";").replace("; ", ";");
            String most = one.length() * 24 > 680 ? "owe 1;".repeat(23) + one : one.repeat(24);
            due.none("24 of " + one, faultOf(most));
            due.none("24 with blanks behind", faultOf(most + " \n"));
        }
        due.none("23", faultOf("owe 1;".repeat(23)));
    }

    private static void statements() {
        due.says("the 25th statement: where it begins.");
        String most = "owe 1;".repeat(24);
        for (String shape : SHAPES) {
            String one = String.join(" ", tokens(shape));
            due.is("a 25th: " + one, faultOf(most + one), 144);
            due.is("behind blanks: " + one, faultOf(most + " \n " + one), 147);
            due.is("that breaks off: " + one, faultOf(most + one.substring(0, one.indexOf(' '))), 144);
        }
        due.is("one that is none", faultOf(most + "\t"), 144);
        due.is("a fault ahead of it goes first", faultOf("owe 1;".repeat(23) + "owe ;owe 1;"), 142);
        due.is("one in the 24th, that breaks off", faultOf("owe 1;".repeat(23) + "owe 1"), 143);
        RainStreets x = new RainStreets();
        due.none("refused", Due.ruled(x, "owe 7;".repeat(25)));
        due.is("it does nothing", x.law(0, 3), 3);
        due.is("24 are taken", Due.ruled(x, "owe 7;".repeat(24)), 0);
        due.is("in force", x.law(0, 3), 7);
    }

    private static void bare() {
        due.says("else: CLOG 2, LEAVES 250 to 320, OWE 3, PARKING 20, SALT 30, STAND 3, FEE 5 CREDIT 2 BED 10, COST 50 BOWL 1, DOUBT 10, LOOK 0 80 to 100, 1 50 to 80, 2 20 to 50, 3 0 to 20.");
        for (int what = 0; what < BARE.length; what++) {
            due.is("bare " + what, new RainStreets().law(0, what), BARE[what]);
            RainStreets x = new RainStreets();
            x.rules(0);
            due.is("of rules without a statement " + what, x.law(0, what), what == 22 ? 0 : BARE[what]);
            RainStreets y = new RainStreets();
            Due.ruled(y, "clog 9; leaves 9 to 9; owe 9; parking 9; salt 9; stand 9; fee 9 credit 9 bed 9; cost 9 bowl 9;"
                + "doubt 9; look 0 from 9 to 9; look 1 from 9 to 9; look 2 from 9 to 9; look 3 from 9 to 9;");
            due.is("all told " + what, y.law(0, what), what < 21 ? 9 : 0);
            y.rules(0);
            due.is("bare again " + what, y.law(0, what), what == 22 ? 1 : BARE[what]);
        }
    }

    private static void eachAlone() {
        due.says("of the others the last, else: CLOG 2");
        int[][] places = {{21}, {0}, {1, 2}, {3}, {4}, {5}, {6}, {7, 8, 9}, {10, 11}, {12}, {15, 16}};
        for (int shape = 0; shape < SHAPES.length; shape++) {
            StringBuilder told = new StringBuilder();
            int number = 7000;
            for (String part : SHAPES[shape].split(" ")) {
                told.append(part.equals("#") ? "" + ++number : part.matches("[+G]") ? "1" : part).append(' ');
            }
            RainStreets x = new RainStreets();
            due.is("taken: " + told, Due.ruled(x, told.toString()), 0);
            for (int what = 0; what <= 21; what++) {
                int want = BARE[what];
                for (int i = 0; i < places[shape].length; i++) {
                    want = places[shape][i] == what ? shape == 0 ? 1 : 7001 + i : want;
                }
                due.is("law " + what + " of " + told, x.law(0, what), want);
            }
        }
    }

    private static void lasts() {
        due.says("of the others the last, else:");
        RainStreets x = new RainStreets();
        Due.ruled(x, "clog 1; leaves 1 to 2; fee 1 credit 2 bed 3; look 2 from 1 to 2; clog 5; leaves 6 to 7;"
            + "fee 4 credit 5 bed 6; look 2 from 8 to 9; look 1 from 3 to 4; clog 0;");
        int[] want = {0, 6, 7, 3, 20, 30, 3, 4, 5, 6, 50, 1, 10, 80, 100, 3, 4, 8, 9, 0, 20, 0, 0};
        for (int what = 0; what < want.length; what++) {
            due.is("law " + what, x.law(0, what), want[what]);
        }
        due.says("Of one each \"turn\"");
        Due.ruled(x, "turn 1 at 0 every 2 from 0; turn 1 at 0 every 2 from 1;");
        x.corner(1, 1, 0, 0);
        due.is("two turns", x.law(0, 21), 2);
        due.is("the one", x.turn(1, 0, 4), 1);
        due.is("the other", x.turn(1, 0, 5), 1);
    }

    private static void fromTodayOn() {
        due.says("they're in force from TODAY on (ahead of the first: bare)");
        RainStreets x = new RainStreets();
        Due.passed(x, 364);
        Due.ruled(x, "clog 7;");
        Due.passed(x, 1);
        Due.ruled(x, "clog 8;");
        Due.ruled(x, "clog 9;");
        Due.passed(x, 3284);
        due.is("the last day", x.count(0), 3649);
        Due.ruled(x, "clog 11;");
        int[][] days = {{0, 2, -1}, {363, 2, -1}, {364, 7, 0}, {365, 9, 2}, {3648, 9, 2}, {3649, 11, 3}};
        for (int[] day : days) {
            due.is("clog on day " + day[0], x.law(day[0], 0), day[1]);
            due.is("number on day " + day[0], x.law(day[0], 22), day[2]);
        }
    }

    private static void lawAsked() {
        due.says("21 turns, 22 their number (NONE: bare). NONE: none such.");
        Twins.asked(due, "law", 22, Twins::lively, (x, n) -> x.law(0, n));
        due.says("Of THE RULES on a DAY: 0 CLOG, 1, 2 LEAVES, 3 OWE, 4 PARKING, 5 SALT, 6 STAND, 7 FEE, 8 CREDIT, 9 BED, 10 COST, 11 BOWL, 12 DOUBT");
        Twins.span(due, "day", 0, 3649, Twins::lively, 20, -1, (x, n) -> x.law(n, 0));
        Twins.none(due, "day 3650 of none", Twins::empty, x -> x.law(3650, 0));
        Twins.none(due, "day 0, bare", Twins::empty, x -> x.law(0, 22));
    }

    private static void meaningless() {
        due.says("of numbers above 9, corners that aren't there it means nothing");
        RainStreets x = new RainStreets();
        for (int corner = 0; corner < 12; corner++) {
            x.corner(1, 1, 0, 0);
            x.bed(corner, 0, 1, false);
        }
        due.is("taken", Due.ruled(x, "owe 1; turn 9 at 11 every 1 from 0; turn 10 at 0 every 1 from 0;"
            + "turn 11 at 0 every 1 from 0; turn 9999 at 0 every 1 from 0; turn 0 at 12 every 1 from 0;"
            + "turn 1 at 9999 every 1 from 0; turn 10 at 12 every 1 from 0;"), 0);
        x.pass(3);
        for (int neighbour = 0; neighbour <= 9; neighbour++) {
            due.is("owes", x.neighbour(neighbour, 0), neighbour == 9 ? 3 : 0);
        }
        due.is("9 at the last corner", x.turn(9, 11, 0), 1);
        due.none("10", x.turn(10, 0, 0));
        due.none("at 12", x.turn(0, 12, 0));
        x.care(0, 10);
        x.pass(1);
        due.is("the crew is no neighbour 10", x.fee(10, 0), 0);
        due.is("kept by none", x.neighbour(0, 1) + x.neighbour(1, 1) + x.neighbour(9, 1), 0);
    }

    private static void turnsAsked() {
        due.says("Whether a NEIGHBOUR has a turn at a corner on a DAY: 1, 0. NONE: none such.");
        Twins.Made made = () -> {
            RainStreets x = Twins.lively();
            Due.ruled(x, "turn 0 at 0 every 9999 from 9999;");
            Due.fed(x, "clog 3;");
            return x;
        };
        Twins.span(due, "neighbour", 0, 9, made, 0, -1, (x, n) -> x.turn(n, 0, 1));
        Twins.span(due, "corner", 0, 3, made, 0, -1, (x, n) -> x.turn(9, n, 1));
        Twins.span(due, "day", 0, 3649, made, 0, -1, (x, n) -> x.turn(9, 0, n));
        due.says("a NEIGHBOUR cares for a corner on each so manieth DAY from a DAY on");
        RainStreets x = new RainStreets();
        x.corner(1, 1, 0, 0);
        x.corner(1, 1, 0, 0);
        Due.ruled(x, "turn 0 at 0 every 3 from 2; turn 1 at 0 every 1 from 3649; turn 2 at 0 every 9999 from 5;"
            + "turn 3 at 0 every 1 from 0; turn 4 at 0 every 3644 from 5; turn 5 at 0 every 1 from 3650;");
        int[][] turns = {{0, 1, 0}, {0, 2, 1}, {0, 3, 0}, {0, 4, 0}, {0, 5, 1}, {0, 3647, 1}, {0, 3649, 0}, {1, 3648, 0},
            {1, 3649, 1}, {2, 4, 0}, {2, 5, 1}, {2, 6, 0}, {3, 0, 1}, {3, 3649, 1}, {4, 3648, 0}, {4, 3649, 1}, {5, 3649, 0}};
        for (int[] turn : turns) {
            due.is("turn of " + turn[0] + " on day " + turn[1], x.turn(turn[0], 0, turn[1]), turn[2]);
            due.is("at another corner", x.turn(turn[0], 1, turn[1]), 0);
            due.is("of another", x.turn(9, 0, turn[1]), 0);
        }
    }
}
