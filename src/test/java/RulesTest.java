import java.nio.charset.StandardCharsets;

/** Promises 31 to 34: the tape, the rules, their faults and laws by days. */
public final class RulesTest {
    private static final Due due = new Due();

    public static void main(String[] args) {
        feed();
        rules();
        tenRules();
        laws();
        lawsByDays();
        tokens();
        faults();
        faultStays();
        numbers();
        statements();
        due.end();
    }

    private static void feed() {
        RainStreets x = new RainStreets();
        due.is("twenty", x.feed(-1, 0, 1, Integer.MIN_VALUE, Integer.MAX_VALUE), 20);
        for (int i = 2; i <= 35; i++) {
            due.is("twenty more", x.feed(0, 0, 0, 0, 0), 20 * i);
        }
        due.none("more than 700", x.feed(0, 0, 0, 0, 0));
        due.is("700", x.count(12), 700);
        due.none("a fault", x.rules(700));
        due.is("at the first byte", x.fault(), 0);
        due.is("empty", x.count(12), 0);
        due.is("twenty", x.feed(0, 0, 0, 0, 0), 20);
        RainStreets y = new RainStreets();
        // "owe 1234;owe 43;    ": the highest byte of each number first.
        y.feed(0x6f776520, 0x31323334, 0x3b6f7765, 0x2034333b, 0x20202020);
        due.is("rules", y.rules(9), 0);
        due.is("by the first 9 bytes", y.law(0, 3), 1234);
        due.is("the tape is empty", y.count(12), 0);
        y.feed(0x6f776520, 0x31323334, 0x3b6f7765, 0x2034333b, 0x20202020);
        due.is("rules", y.rules(16), 1);
        due.is("the last one's", y.law(0, 3), 43);
        RainStreets z = new RainStreets();
        byte[] full = new byte[700];
        java.util.Arrays.fill(full, (byte) ' ');
        System.arraycopy("owe 9;".getBytes(StandardCharsets.ISO_8859_1), 0, full, 694, 6);
        due.is("700 bytes", z.rules(Due.fed(z, full)), 0);
        due.is("to the last", z.law(0, 3), 9);
    }

    private static void rules() {
        RainStreets x = new RainStreets();
        due.is("n -1", x.rules(-1), -2);
        due.is("n 1 of none", x.rules(1), -2);
        due.is("no bytes: bare rules", x.rules(0), 0);
        due.is("their number", x.law(0, 22), 0);
        due.is("as bare", x.law(0, 0), 2);
        x.feed(0x636c6f67, 0x20353b20, 0x20202020, 0x20202020, 0x20202020);
        due.is("n 21 of 20", x.rules(21), -2);
        due.is("the least n", x.rules(Integer.MIN_VALUE), -2);
        due.is("the greatest n", x.rules(Integer.MAX_VALUE), -2);
        due.is("the tape stays", x.count(12), 20);
        due.is("clog 5", x.rules(20), 1);
        due.is("in force", x.law(0, 0), 5);
        due.none("a fault", Due.ruled(x, "clog 6"));
        due.is("the former stay in force", x.law(0, 0), 5);
        due.is("two are there", x.count(7), 2);
        due.is("the tape is empty behind a fault", x.count(12), 0);
        due.is("others are bare again", Due.ruled(x, "owe 1;"), 2);
        due.is("clog bare", x.law(0, 0), 2);
    }

    private static void tenRules() {
        RainStreets x = new RainStreets();
        for (int i = 0; i < 10; i++) {
            due.is("rules", Due.ruled(x, "clog " + (10 + i) + ";"), i);
            x.pass(1);
        }
        due.is("an eleventh", Due.ruled(x, "clog 1;"), -3);
        due.is("nothing done", x.count(12), 20);
        due.is("nor for a fault", x.rules(3), -3);
        due.is("nor the fault changed", x.fault(), -1);
        due.is("n above", x.rules(21), -2);
        due.is("ten", x.count(7), 10);
        for (int i = 0; i < 10; i++) {
            due.is("of each day", x.law(i, 0), 10 + i);
            due.is("numbers", x.law(i, 22), i);
        }
    }

    private static void laws() {
        RainStreets x = new RainStreets();
        due.row("bare", w -> x.law(0, w),
            2, 250, 320, 3, 20, 30, 3, 5, 2, 10, 50, 1, 10, 80, 100, 50, 80, 20, 50, 0, 20, 0, -1, -1);
        due.is("all told", Due.ruled(x, "clog 31; leaves 32 to 33; owe 34; parking 35; salt 36; stand 37;\n"
            + "fee 38 credit 39 bed 40; cost 41 bowl 42; doubt 43; look 0 from 44 to 45; look 1 from 46 to 47;"
            + "look 2 from 48 to 49; look 3 from 50 to 51; turn 1 at 2 every 3 from 4; turn 5 at 6 every 7 from 8;"), 0);
        due.row("all told", w -> x.law(0, w),
            31, 32, 33, 34, 35, 36, 37, 38, 39, 40, 41, 42, 43, 44, 45, 46, 47, 48, 49, 50, 51, 2, 0, -1);
        due.none("what -1", x.law(0, -1));
        due.none("day -1", x.law(-1, 0));
        due.none("day 3650", x.law(3650, 0));
        due.is("day 3649", x.law(3649, 0), 31);
        due.is("the last of each", Due.ruled(x, "clog 1; look 2 from 1 to 2; clog 2; look 3 from 3 to 4; look 2 from 5 to 6;"), 1);
        due.row("the last of each", w -> x.law(0, w),
            2, 250, 320, 3, 20, 30, 3, 5, 2, 10, 50, 1, 10, 80, 100, 50, 80, 5, 6, 3, 4, 0, 1, -1);
    }

    private static void lawsByDays() {
        RainStreets x = new RainStreets();
        x.pass(5);
        Due.ruled(x, "clog 7;");
        due.is("ahead", x.law(4, 0), 2);
        due.none("ahead: bare", x.law(4, 22));
        due.is("from today on", x.law(5, 0), 7);
        due.is("to come", x.law(3649, 0), 7);
        Due.ruled(x, "clog 8;");
        due.is("the latter of a day", x.law(5, 0), 8);
        due.is("its number", x.law(5, 22), 1);
        x.pass(5);
        Due.ruled(x, "clog 9;");
        due.is("as it was", x.law(9, 0), 8);
        due.is("and is", x.law(10, 0), 9);
    }

    private static int faultOf(String text) {
        RainStreets x = new RainStreets();
        int n = Due.ruled(x, text);
        due.is("rules and fault agree on: " + text, n == 0 && x.fault() == -1 || n == -1 && x.fault() >= 0, true);
        return x.fault();
    }

    private static void tokens() {
        due.none("no blanks", faultOf("turn1at2every3from4;clog5;"));
        due.none("many blanks", faultOf("  clog \n 5 \n\n ; "));
        due.none("blanks alone", faultOf(" \n "));
        due.none("nothing", faultOf(""));
        due.is("a tab", faultOf("clog\t5;"), 4);
        due.is("a return", faultOf("clog 5;\r\n"), 7);
        due.is("a capital", faultOf("clog 5; Owe 3;"), 8);
        due.is("a capital in a word", faultOf("clOg 5;"), 0);
        due.is("a byte of 0", faultOf("clog 5;\0"), 7);
        due.is("a high byte", faultOf("clog 5;\u00e4"), 7);
        due.is("a high byte with a blank's low bits", faultOf("clog 5;\u00a0"), 7);
        due.is("words as long as they go", faultOf("clogs 5;"), 0);
        due.is("from a to z", faultOf("clogz 5;"), 0);
        due.is("from a to z", faultOf("clog a5;"), 5);
        due.is("next to a", faultOf("clog` 5;"), 4);
        due.is("next to z", faultOf("clog{ 5;"), 4);
        due.is("next to 0", faultOf("clog 5/;"), 6);
        due.is("next to 9", faultOf("clog 5:;"), 6);
        due.is("words apart", faultOf("cl og 5;"), 0);
        due.is("numbers apart", faultOf("clog 1 2;"), 7);
        due.is("two signs", faultOf("clog 5;;"), 7);
        due.is("a minus", faultOf("clog -5;"), 5);
    }

    private static void faults() {
        due.is("no statement", faultOf("to 5;"), 0);
        due.is("a number first", faultOf(" 5;"), 1);
        due.is("a sign first", faultOf(";"), 0);
        due.is("no number", faultOf("clog ;"), 5);
        due.is("a word for a number", faultOf("clog clog;"), 5);
        due.is("no sign", faultOf("clog 5 owe 3;"), 7);
        due.is("leaves without to", faultOf("leaves 5 6;"), 9);
        due.is("another word", faultOf("leaves 5 from 6;"), 9);
        due.is("turn", faultOf("turn 1 to 2;"), 7);
        due.is("turn, every", faultOf("turn 1 at 2 from 3 every 4;"), 12);
        due.is("turn, from", faultOf("turn 1 at 2 every 3 to 4;"), 20);
        due.is("turn, the sign", faultOf("turn 1 at 2 every 3 from 4 5;"), 27);
        due.is("fee", faultOf("fee 1 bed 2 credit 3;"), 6);
        due.is("fee, bed", faultOf("fee 1 credit 2 bowl 3;"), 15);
        due.is("cost", faultOf("cost 1 bed 2;"), 7);
        due.is("look", faultOf("look 1 to 2 from 3;"), 7);
        due.is("look, to", faultOf("look 1 from 2 from 3;"), 14);
        due.is("more must come, a word", faultOf("clog"), 4);
        due.is("more must come, a number", faultOf("clog 5 "), 7);
        due.is("more must come, turn", faultOf("clog 5; turn 1 at 2 every 3 from"), 32);
        due.is("a word that breaks off", faultOf("clog 5; tur"), 8);
    }

    private static void faultStays() {
        RainStreets x = new RainStreets();
        Due.ruled(x, "clog 5; owe;");
        due.is("fault", x.fault(), 11);
        due.is("-2", x.rules(1), -2);
        due.is("the fault stays", x.fault(), 11);
        due.is("a number", Due.ruled(x, "clog 5;"), 0);
        due.none("none", x.fault());
        x.feed(0, 0, 0, 0, 0);
        due.none("none still", x.fault());
    }

    private static void numbers() {
        due.none("four digits", faultOf("clog 9999;"));
        due.none("noughts ahead", faultOf("clog 0005;"));
        due.is("five digits", faultOf("clog 10000;"), 5);
        due.is("five digits with noughts", faultOf("clog 00005;"), 5);
        due.is("very many", faultOf("clog 99999999999999999999;"), 5);
        due.is("every 0", faultOf("turn 1 at 2 every 0 from 3;"), 18);
        due.is("every 0000", faultOf("turn 1 at 2 every 0000 from 3;"), 18);
        due.none("every 1", faultOf("turn 0 at 0 every 1 from 0;"));
        due.none("every 9999", faultOf("turn 9999 at 9999 every 9999 from 9999;"));
        due.is("turn of five digits", faultOf("turn 10000 at 2 every 1 from 3;"), 5);
        due.is("from of five digits", faultOf("turn 1 at 2 every 1 from 30000;"), 25);
        due.is("look 4", faultOf("look 4 from 0 to 1;"), 5);
        due.none("look 3", faultOf("look 3 from 0 to 1;"));
        due.none("look 0003", faultOf("look 0003 from 0 to 1;"));
        due.none("from above to", faultOf("look 3 from 9 to 1;"));
        RainStreets x = new RainStreets();
        Due.ruled(x, "clog 0012; look 0002 from 9999 to 0;");
        due.is("noughts ahead", x.law(0, 0), 12);
        due.is("9999", x.law(0, 17), 9999);
        due.is("0", x.law(0, 18), 0);
    }

    private static void statements() {
        String most = "clog 5;".repeat(24);
        due.none("24", faultOf(most));
        due.none("24 with blanks behind", faultOf(most + "  \n "));
        due.is("25", faultOf(most + " clog 5;"), 169);
        due.is("a 25th that breaks off", faultOf(most + "clog"), 168);
        due.is("a 25th that is none", faultOf(most + " \t"), 169);
        String turns = "turn 1 at 2 every 3 from 4;".repeat(24);
        RainStreets x = new RainStreets();
        due.is("24 turns", Due.ruled(x, turns), 0);
        due.is("24 turns told", x.law(0, 21), 24);
    }
}
