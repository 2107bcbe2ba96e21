/** Promises 9 and 22 to 25: days that go by, the crew, neighbours, their turns and fees. */
public final class DaysTest {
    private static final Due due = new Due();

    public static void main(String[] args) {
        pass();
        clog();
        leaves();
        bowls();
        stands();
        salt();
        barrels();
        crew();
        crewTies();
        turns();
        neighbours();
        meaningless();
        fees();
        feesOfYears();
        due.end();
    }

    private static RainStreets withBeds(String rules, boolean... trees) {
        RainStreets x = new RainStreets();
        Due.ruled(x, rules);
        for (int i = 0; i < trees.length; i++) {
            x.corner(10, 500, 0, 0);
            x.bed(i, 0, 500, trees[i]);
        }
        return x;
    }

    private static void pass() {
        RainStreets x = new RainStreets();
        due.none("0 days", x.pass(0));
        due.none("-1 days", x.pass(-1));
        due.none("101 days", x.pass(101));
        due.none("very many days", x.pass(Integer.MAX_VALUE));
        due.is("still the first", x.count(0), 0);
        due.is("1", x.pass(1), 1);
        for (int i = 1; i <= 36; i++) {
            due.is("100", x.pass(100), 1 + 100 * i);
        }
        due.none("above the last", x.pass(49));
        due.is("nothing done", x.count(0), 3601);
        due.is("the last", x.pass(48), 3649);
        due.none("behind the last", x.pass(1));
    }

    private static void clog() {
        RainStreets x = withBeds("clog 5;", false, true);
        x.pass(3);
        due.is("by 5", x.bedOf(0, 4), 15);
        due.is("a tree: by half, cut", x.bedOf(1, 4), 6);
        Due.ruled(x, "clog 30;");
        x.pass(3);
        due.is("100 at most", x.bedOf(0, 4), 100);
        due.is("by the rules of the day", x.bedOf(1, 4), 51);
        due.is("nothing drunk", x.bedOf(0, 10), 0);
        RainStreets y = withBeds("clog 3; salt 0;", false, true);
        y.treat(0, 0);
        y.treat(1, 0);
        y.pass(61);
        y.care(0, 0);
        y.care(0, 1);
        y.care(0, 2);
        y.care(0, 3);
        y.care(1, 0);
        y.care(1, 1);
        y.care(1, 2);
        y.pass(1);
        due.is("twice without plants", y.bedOf(0, 4), 6);
        due.is("twice the half, cut ahead", y.bedOf(1, 4), 2);
    }

    private static void leaves() {
        RainStreets x = withBeds("leaves 2 to 3; clog 0;", false, true);
        x.pass(2);
        due.is("ahead of from", x.bedOf(0, 5), 0);
        x.pass(1);
        due.is("from", x.bedOf(0, 5), 1);
        due.is("2 at a tree", x.bedOf(1, 5), 2);
        x.pass(1);
        due.is("to", x.bedOf(0, 5), 2);
        x.pass(1);
        due.is("behind to", x.bedOf(0, 5), 2);
        RainStreets y = withBeds("leaves 363 to 0; clog 0;", false, true);
        y.pass(1);
        due.is("to, beyond the year's end", y.bedOf(0, 5), 1);
        y.pass(1);
        due.is("behind it", y.bedOf(0, 5), 1);
        Due.passed(y, 361);
        due.is("ahead of from", y.bedOf(0, 5), 1);
        y.pass(3);
        due.is("to the year's end and beyond", y.bedOf(0, 5), 4);
        Due.ruled(y, "leaves 0 to 9999;");
        y.pass(7);
        due.is("10 at most", y.bedOf(0, 5), 10);
        due.is("10 at most at a tree", y.bedOf(1, 5), 10);
        RainStreets z = withBeds("", false);
        Due.passed(z, 250);
        due.is("bare: none to 249", z.bedOf(0, 5), 0);
        z.pass(1);
        due.is("bare: 250", z.bedOf(0, 5), 1);
        Due.passed(z, 60);
        z.care(0, 1);
        z.pass(10);
        due.is("bare: to 320", z.bedOf(0, 5), 10);
        z.care(0, 1);
        z.pass(1);
        due.is("bare: none behind", z.bedOf(0, 5), 0);
        RainStreets v = withBeds("leaves 60 to 60;", false);
        Due.passed(v, 365 + 60);
        due.is("one day of the first year", v.bedOf(0, 5), 1);
        v.pass(1);
        due.is("and of the next", v.bedOf(0, 5), 2);
    }

    private static void bowls() {
        RainStreets x = withBeds("clog 50; stand 9999;", false);
        x.lot(0, 2);
        for (int i = 0; i < 3; i++) {
            x.rain(10);
        }
        x.storm();
        due.is("in the bowl", x.bedOf(0, 8), 294);
        due.is("drunk", x.sum(1), 6);
        x.pass(1);
        // The clog of the day counts already: 20 times 1.
        due.is("20 times what it drinks", x.bedOf(0, 8), 274);
        due.is("drunk", x.sum(1), 26);
        due.is("it stands", x.bedOf(0, 9), 1);
        x.pass(1);
        due.is("clogged", x.bedOf(0, 8), 274);
        due.is("it stands", x.bedOf(0, 9), 2);
        for (int by = 0; by < 4; by++) {
            x.care(0, by);
        }
        x.lot(0, 26);
        x.pass(1);
        due.is("20 times 13", x.bedOf(0, 8), 14);
        due.is("it stands", x.bedOf(0, 9), 3);
        x.care(0, 0);
        x.care(0, 1);
        x.lot(0, 100);
        x.pass(1);
        due.is("0 at least", x.bedOf(0, 8), 0);
        due.is("it stands no more", x.bedOf(0, 9), 0);
        due.is("all drunk", x.sum(1), 300);
        RainStreets y = withBeds("clog 0;", false);
        y.rain(23);
        y.lot(0, 9);
        y.storm();
        y.lot(0, 11);
        y.pass(1);
        due.is("1 is left", y.bedOf(0, 8), 1);
        due.is("1 left stands too", y.bedOf(0, 9), 1);
        due.is("balance", x.sum(0), x.sum(1) + x.sum(2) + x.sum(3));
    }

    private static void stands() {
        RainStreets x = withBeds("clog 9999; stand 2;", false, false);
        x.rain(10);
        x.storm();
        due.is("no complaint", x.count(9), 0);
        x.pass(2);
        due.is("stands 2", x.bedOf(0, 9), 2);
        due.is("no complaint yet", x.count(9), 0);
        x.pass(1);
        due.is("both complain", x.count(9), 2);
        due.row("by corners", w -> x.complaint(1, w), 1, 2, 2, 2, 1, 1, -1);
        due.is("the first one's corner", x.complaint(0, 0), 0);
        x.pass(4);
        due.is("no more of it", x.count(9), 2);
        due.is("nor joined", x.complaint(0, 4), 1);
        due.is("stands on", x.bedOf(0, 9), 7);
        Due.ruled(x, "clog 0; stand 7;");
        x.pass(1);
        due.is("joined as it's told again", x.complaint(0, 4), 2);
        due.is("on the day that goes by", x.complaint(0, 3), 7);
        due.is("no new one", x.count(9), 2);
        Due.ruled(x, "stand 20;");
        x.pass(13);
        due.is("more than 7 days ago: a new one", x.count(9), 4);
        RainStreets y = withBeds("clog 9999; stand 0;", false);
        for (int i = 0; i < 60; i++) {
            y.complain(0, 1);
            y.close(i);
        }
        y.rain(10);
        y.storm();
        y.pass(1);
        due.is("none if 60 are there", y.count(9), 60);
        due.is("none open", y.count(10), 0);
    }

    private static void salt() {
        RainStreets x = withBeds("", false, false);
        for (int i = 0; i < 3; i++) {
            x.treat(0, 0);
            x.treat(1, 0);
        }
        x.treat(1, 0);
        x.pass(60);
        due.is("day 60 hasn't gone by", x.bedOf(1, 7), 1);
        due.is("salt", x.bedOf(1, 6), 40);
        x.pass(1);
        due.is("30 is not more than 30", x.bedOf(0, 7), 1);
        due.is("40 is", x.bedOf(1, 7), 0);
        due.is("salt gone", x.bedOf(0, 6), 0);
        due.is("salt gone", x.bedOf(1, 6), 0);
        due.is("one without plants", x.count(11), 1);
        Due.ruled(x, "salt 9;");
        x.treat(0, 0);
        Due.passed(x, 364);
        due.is("not on other days", x.bedOf(0, 7), 1);
        x.pass(1);
        due.is("each year, by the rules", x.bedOf(0, 7), 0);
        due.is("two without", x.count(11), 2);
    }

    private static void barrels() {
        RainStreets x = new RainStreets();
        x.corner(1, 500, 0, 0);
        x.roof(0, 0, 12, 50);
        x.roof(0, 0, 3, 50);
        x.rain(1);
        x.storm();
        x.pass(1);
        due.is("5 used", x.roofOf(0, 4), 7);
        due.is("as far as it has", x.roofOf(1, 4), 0);
        due.is("used", x.sum(5), 8);
        x.pass(1);
        due.is("used", x.sum(5), 13);
        x.pass(1);
        due.is("used", x.sum(5), 15);
        due.is("empty", x.sum(6), 0);
    }

    private static void crew() {
        RainStreets x = withBeds("clog 40;", false, true, false);
        x.corner(1, 1, 0, 0);
        x.lot(1, 100);
        x.bed(3, 1, 1, false);
        x.pass(2);
        // Clogs 80, 40, 80, 80: drinks of 4, 12, 4 and 20 of 20 and 100; with care 10, 18, 10 and 50.
        due.row("1 hour", w -> x.crew(1, w), 0, 0, 0, -1);
        due.row("2 hours", w -> x.crew(2, w), 6, 1, 2);
        due.row("4 hours", w -> x.crew(4, w), 6, 1, 2);
        due.row("5 hours", w -> x.crew(5, w), 30, 8, 5);
        due.row("7 hours", w -> x.crew(7, w), 36, 9, 7);
        due.row("10 hours", w -> x.crew(10, w), 42, 11, 9);
        due.row("11 hours", w -> x.crew(11, w), 48, 15, 11);
        due.row("60 hours", w -> x.crew(60, w), 48, 15, 11);
        due.row("0 hours", w -> x.crew(0, w), 0, 0, 0);
        due.none("hours -1", x.crew(-1, 0));
        due.none("hours 61", x.crew(61, 0));
        due.none("what -1", x.crew(5, -1));
        due.is("nothing is done", x.bedOf(0, 4), 80);
    }

    private static void crewTies() {
        RainStreets x = withBeds("clog 30;", false, false, false);
        x.pass(1);
        due.is("of several the least", x.crew(4, 1), 1);
        due.is("two of three", x.crew(5, 1), 3);
        x.care(0, 10);
        due.is("where care drinks no more it's none", x.crew(60, 1), 6);
        x.lot(0, 1);
        x.care(1, 10);
        Due.ruled(x, "clog 1;");
        x.pass(1);
        // Of 1 a clog of 1 leaves none; of the third bed care leaves that clog.
        due.row("drinks are cut", w -> x.crew(60, w), 2, 3, 5);
        RainStreets y = withBeds("clog 10;", false);
        y.pass(1);
        due.is("clog less 30 is 0 at least", y.crew(2, 0), 2);
    }

    private static void turns() {
        RainStreets x = new RainStreets();
        x.corner(1, 1, 0, 0);
        x.corner(1, 1, 0, 0);
        x.pass(1);
        Due.ruled(x, "turn 3 at 0 every 3 from 5; turn 9 at 1 every 1 from 0; turn 4 at 2 every 1 from 0;");
        due.is("from", x.turn(3, 0, 5), 1);
        due.is("behind from", x.turn(3, 0, 6), 0);
        due.is("every", x.turn(3, 0, 8), 1);
        due.is("ahead of from", x.turn(3, 0, 2), 0);
        due.is("far", x.turn(3, 0, 3647), 1);
        due.is("neighbour 0", x.turn(0, 0, 5), 0);
        due.is("another corner", x.turn(3, 1, 5), 0);
        due.is("another neighbour", x.turn(2, 0, 5), 0);
        due.is("each day", x.turn(9, 1, 1), 1);
        due.is("by the rules of the day: bare", x.turn(9, 1, 0), 0);
        due.none("no corner", x.turn(4, 2, 2));
        due.none("corner -1", x.turn(4, -1, 2));
        due.none("neighbour -1", x.turn(-1, 0, 2));
        due.none("neighbour 10", x.turn(10, 0, 2));
        due.none("day -1", x.turn(3, 0, -1));
        due.none("day 3650", x.turn(3, 0, 3650));
        due.is("day 3649", x.turn(9, 1, 3649), 1);
        x.corner(1, 1, 0, 0);
        due.is("a corner that came later", x.turn(4, 2, 2), 1);
        x.pass(3);
        Due.ruled(x, "");
        due.is("as it was", x.turn(9, 1, 3), 1);
        due.is("from today on none", x.turn(9, 1, 4), 0);
    }

    private static void neighbours() {
        RainStreets x = withBeds("owe 7; turn 0 at 0 every 2 from 1; turn 0 at 1 every 2 from 1; turn 9 at 0 every 1 from 2;",
            false, false);
        x.corner(1, 1, 0, 0);
        due.row("nothing yet", w -> x.neighbour(0, w), 0, 0, -1);
        x.care(0, 0);
        x.pass(1);
        due.row("care without a turn", w -> x.neighbour(0, w), 0, 0);
        x.care(1, 0);
        x.pass(1);
        due.row("one kept, one owed", w -> x.neighbour(0, w), 7, 1);
        due.row("not their turn", w -> x.neighbour(9, w), 0, 0);
        x.care(0, 10);
        x.care(0, 0);
        x.pass(1);
        due.row("others' care is not theirs", w -> x.neighbour(9, w), 7, 0);
        x.care(0, 0);
        x.care(1, 0);
        x.care(0, 9);
        x.pass(1);
        due.row("both kept", w -> x.neighbour(0, w), 7, 3);
        due.row("kept", w -> x.neighbour(9, w), 7, 1);
        Due.ruled(x, "turn 0 at 0 every 1 from 0; turn 0 at 0 every 1 from 0; turn 1 at 2 every 1 from 0;");
        x.pass(1);
        due.is("each turn counts, 3 bare", x.neighbour(0, 0), 13);
        due.row("no bed: neither", w -> x.neighbour(1, w), 0, 0);
        x.care(0, 0);
        x.pass(1);
        due.row("each turn is kept", w -> x.neighbour(0, w), 13, 5);
        due.none("neighbour -1", x.neighbour(-1, 0));
        due.none("neighbour 10", x.neighbour(10, 0));
        due.none("what -1", x.neighbour(0, -1));
    }

    private static void meaningless() {
        RainStreets x = withBeds("turn 10 at 0 every 1 from 0; turn 9999 at 0 every 1 from 0; turn 1 at 12 every 1 from 0;"
            + " turn 2 at 1 every 1 from 0;", false);
        x.pass(5);
        for (int n = 0; n < 10; n++) {
            due.row("it means nothing", neighbour(x, n), 0, 0);
        }
        due.is("turns that the text has", x.law(0, 21), 4);
        x.corner(1, 1, 0, 0);
        x.bed(1, 0, 1, false);
        x.pass(2);
        due.is("a corner that came later", x.neighbour(2, 0), 6);
    }

    private static Due.Asked neighbour(RainStreets x, int n) {
        return what -> x.neighbour(n, what);
    }

    private static void fees() {
        RainStreets x = new RainStreets();
        x.corner(1, 1, 0, 0);
        x.bed(0, 0, 1, false);
        x.roof(0, 3, 10, 20);
        x.roof(0, 3, 15, 10);
        x.roof(0, 10, 7, 3);
        due.is("5 by areas", x.fee(3, 0), 125);
        due.is("another owner", x.fee(10, 0), 35);
        due.is("no roof", x.fee(4, 0), 0);
        x.prove(1);
        due.is("credit for what was proved", x.fee(3, 0), 105);
        due.is("not next year", x.fee(3, 1), 125);
        Due.ruled(x, "turn 3 at 0 every 1 from 0;");
        x.care(0, 3);
        x.pass(1);
        due.is("10 for a turn kept", x.fee(3, 0), 95);
        x.pass(1);
        due.is("none for one owed", x.fee(3, 0), 95);
        Due.ruled(x, "fee 9 credit 3 bed 40;");
        due.is("by the rules on its last day", x.fee(3, 0), 225 - 30 - 40);
        Due.ruled(x, "fee 1 credit 3 bed 40;");
        due.is("0 at least", x.fee(3, 0), 0);
        due.is("owners above 9 are no neighbours", x.fee(10, 0), 7);
        due.is("owner 19", x.fee(19, 9), 0);
        due.is("owner 0", x.fee(0, 0), 0);
        due.none("owner -1", x.fee(-1, 0));
        due.none("owner 20", x.fee(20, 0));
        due.none("year -1", x.fee(3, -1));
        due.none("year 10", x.fee(3, 10));
    }

    private static void feesOfYears() {
        RainStreets x = new RainStreets();
        x.corner(1, 1, 0, 0);
        x.bed(0, 0, 1, false);
        x.roof(0, 3, 20, 10);
        Due.ruled(x, "turn 3 at 0 every 1 from 364; fee 6 credit 1 bed 10;");
        x.prove(0);
        Due.passed(x, 364);
        x.care(0, 3);
        x.pass(1);
        due.is("kept on the last day", x.fee(3, 0), 100);
        x.care(0, 3);
        x.pass(1);
        due.is("kept on the next", x.fee(3, 1), 110);
        x.prove(0);
        due.is("proved in both", x.fee(3, 0), 100);
        due.is("proved in both", x.fee(3, 1), 100);
        Due.ruled(x, "fee 8 credit 1 bed 10;");
        due.is("by the rules of that year", x.fee(3, 0), 100);
        due.is("and of this", x.fee(3, 1), 140);
        due.is("and of those to come", x.fee(3, 9), 160);
        Due.passed(x, 3648 - 366);
        Due.ruled(x, "turn 3 at 0 every 1 from 364; fee 8 credit 1 bed 10;");
        x.prove(0);
        x.care(0, 3);
        x.pass(1);
        due.is("the last year", x.roofOf(0, 5), 9);
        due.is("its fee", x.fee(3, 9), 140);
        due.is("turns kept ever", x.neighbour(3, 1), 3);
        RainStreets y = new RainStreets();
        y.corner(1, 1, 0, 0);
        y.roof(0, 0, 1, 0);
        Due.passed(y, 364);
        Due.ruled(y, "fee 6 credit 0 bed 0;");
        y.pass(1);
        Due.ruled(y, "fee 7 credit 0 bed 0;");
        due.is("rules of its very last day", y.fee(0, 0), 6);
        due.is("not of the day behind it", y.fee(0, 1), 7);
    }
}
