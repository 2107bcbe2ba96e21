/** Promises 26 to 30, 35 and 36: looks, the worst lot, complaints, sums and counts. */
public final class LooksTest {
    private static final Due due = new Due();

    public static void main(String[] args) {
        looks();
        worst();
        worstOfSeveral();
        complaints();
        joined();
        sixty();
        close();
        sums();
        counts();
        due.end();
    }

    private static RainStreets withLots(int... lots) {
        RainStreets x = new RainStreets();
        for (int i = 0; i < lots.length; i++) {
            x.corner(10, 20, 1, 0);
            x.bed(i, lots[i], 50, false);
        }
        return x;
    }

    private static void looks() {
        RainStreets x = withLots(0, 1);
        x.corner(1, 1, 1, 1);
        due.none("no bed", x.look(2, 0));
        due.none("no corner", x.look(3, 0));
        due.none("no corner -1", x.look(-1, 0));
        due.none("grade -1", x.look(0, -1));
        due.none("grade 4", x.look(0, 4));
        due.is("nothing done", x.count(8), 0);
        due.is("one", x.look(0, 3), 1);
        due.is("two", x.look(0, 0), 2);
        due.is("three", x.look(1, 3), 3);
        due.is("looks ever", x.count(8), 3);
        due.is("latest", x.bedOf(0, 11), 0);
        due.is("latest of the other", x.bedOf(1, 11), 3);
        int[] from = {16, 10, 4, 0};
        int[] to = {20, 16, 10, 4};
        for (int grade = 0; grade < 4; grade++) {
            x.look(0, grade);
            due.is("from", x.bedOf(0, 12), from[grade]);
            due.is("to", x.bedOf(0, 13), to[grade]);
        }
        x.pass(10);
        due.is("of what the lot drinks, clogged or not", x.bedOf(1, 13), 4);
    }

    private static void worst() {
        RainStreets x = withLots(4, 4, 7);
        due.none("none", x.worst(0));
        x.look(0, 3);
        x.look(0, 3);
        due.none("two looks at one bed are one", x.worst(0));
        x.look(1, 0);
        due.row("worst", x::worst, 4, 3, 2, -1);
        due.none("what -1", x.worst(-1));
        x.look(0, 0);
        due.row("the latest looks alone", x::worst, 4, 0, 2, -1);
        x.look(2, 3);
        due.is("one look is too few", x.worst(0), 4);
    }

    private static void worstOfSeveral() {
        RainStreets x = withLots(9, 9, 2, 2, 5, 5, 5);
        int[] grades = {3, 1, 2, 2, 2, 2, 3};
        for (int i = 0; i < 6; i++) {
            x.look(i, grades[i]);
        }
        due.row("of several the least", x::worst, 2, 4, 2);
        x.look(6, 3);
        due.row("means aren't cut", x::worst, 5, 7, 3);
        x.look(0, 2);
        x.look(6, 1);
        x.look(1, 3);
        due.row("the greatest mean, not the greatest sum", x::worst, 9, 5, 2);
        RainStreets y = withLots(0, 0, 1, 1);
        for (int i = 0; i < 4; i++) {
            y.look(i, 1);
        }
        due.row("lot 0", y::worst, 0, 2, 2);
    }

    private static void complaints() {
        RainStreets x = new RainStreets();
        x.corner(1, 1, 1, 1);
        x.corner(1, 1, 1, 1);
        due.none("kind -1", x.complain(0, -1));
        due.none("kind 4", x.complain(0, 4));
        due.none("corner -1", x.complain(-1, 0));
        due.none("corner 2", x.complain(2, 0));
        due.is("nothing done", x.count(9), 0);
        x.pass(4);
        due.is("first", x.complain(1, 3), 0);
        due.row("first", w -> x.complaint(0, w), 1, 3, 4, 4, 1, 1, -1);
        due.is("another kind", x.complain(1, 0), 1);
        due.is("another corner", x.complain(0, 3), 2);
        due.is("joined", x.complain(1, 3), 0);
        due.is("how often", x.complaint(0, 4), 2);
        due.none("no complaint", x.complaint(3, 0));
        due.none("no complaint -1", x.complaint(-1, 0));
        due.none("what -1", x.complaint(0, -1));
    }

    private static void joined() {
        RainStreets x = new RainStreets();
        x.corner(1, 1, 1, 1);
        x.complain(0, 1);
        x.pass(7);
        due.is("7 days ago", x.complain(0, 1), 0);
        x.pass(7);
        due.is("7 days ago joined", x.complain(0, 1), 0);
        due.row("joined", w -> x.complaint(0, w), 0, 1, 0, 14, 3, 1);
        x.pass(8);
        due.is("8 days ago", x.complain(0, 1), 1);
        due.row("new", w -> x.complaint(1, w), 0, 1, 22, 22, 1, 1);
        due.row("the old one stays", w -> x.complaint(0, w), 0, 1, 0, 14, 3, 1);
        x.close(1);
        due.is("closed: a new one", x.complain(0, 1), 2);
    }

    private static void sixty() {
        RainStreets x = new RainStreets();
        x.corner(1, 1, 1, 1);
        for (int i = 0; i < 59; i++) {
            due.is("complaint", x.complain(0, 0), i);
            x.close(i);
        }
        due.is("the 60th", x.complain(0, 0), 59);
        due.none("a 61st", x.complain(0, 1));
        due.is("one that can be joined", x.complain(0, 0), 59);
        due.is("60", x.count(9), 60);
        x.close(59);
        due.none("none to be joined", x.complain(0, 0));
    }

    private static void close() {
        RainStreets x = new RainStreets();
        x.corner(1, 1, 1, 1);
        due.no("none", x.close(0));
        due.no("-1", x.close(-1));
        x.complain(0, 0);
        x.complain(0, 1);
        due.yes("closed", x.close(0));
        due.no("not open", x.close(0));
        due.is("not open", x.complaint(0, 5), 0);
        due.is("the other is", x.complaint(1, 5), 1);
        due.is("one open", x.count(10), 1);
        x.complain(0, 0);
        due.is("two open", x.count(10), 2);
        x.close(1);
        due.is("the last of them", x.complaint(2, 5), 1);
        due.is("one open", x.count(10), 1);
        due.no("3", x.close(3));
        RainStreets y = new RainStreets();
        y.corner(1, 1, 1, 1);
        y.complain(0, 0);
        due.is("the first one counts", y.count(10), 1);
    }

    private static void sums() {
        RainStreets x = withLots(0);
        x.roof(0, 0, 3, 7);
        x.rain(11);
        x.storm();
        // 33 from the roof, 7 of them into the barrel; 136 come: 50 into the bowl, 20 drunk; 20 to the works.
        due.row("a storm", x::sum, 143, 20, 66, 20, 30, 0, 7, -1);
        due.none("what -1", x.sum(-1));
        x.pass(1);
        due.row("a day", x::sum, 143, 50, 66, 20, 0, 5, 2);
        x.storm();
        due.row("another storm", x::sum, 286, 69, 134, 40, 31, 5, 7);
    }

    private static void counts() {
        RainStreets x = withLots(0, 1, 2);
        x.corner(1, 1, 9, 1);
        x.roof(3, 0, 1, 1);
        x.rain(1);
        x.rain(1);
        x.storm();
        x.look(0, 1);
        x.complain(0, 0);
        x.complain(0, 1);
        x.close(0);
        x.treat(0, 0);
        Due.ruled(x, "salt 9;");
        x.feed(0, 0, 0, 0, 0);
        x.pass(61);
        due.row("count", x::count, 61, 4, 1, 3, 3, 2, 1, 1, 1, 2, 1, 1, 20, -1);
        due.none("count -1", x.count(-1));
        due.none("count far", x.count(Integer.MAX_VALUE));
    }
}
