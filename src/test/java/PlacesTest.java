/** Promises 1 to 8 and 16 to 19: a new object, corners, roofs, lots, beds, care, treating, proving and what is told of them. */
public final class PlacesTest {
    private static final Due due = new Due();

    public static void main(String[] args) {
        newObject();
        corners();
        below();
        roofs();
        lots();
        beds();
        parking();
        care();
        treat();
        told();
        bedOf();
        roofOf();
        prove();
        due.end();
    }

    private static void newObject() {
        RainStreets x = new RainStreets();
        due.is("NONE", RainStreets.NONE, -1);
        due.row("new: count", x::count, 0, 0, 0, 0, 0, 0, 0, 0, 0, 0, 0, 0, 0, -1);
        due.row("new: sum", x::sum, 0, 0, 0, 0, 0, 0, 0, -1);
        due.none("new: law number", x.law(0, 22));
        due.none("new: stormOf", x.stormOf(0, 0));
        due.none("new: told", x.told(0, 0));
        due.none("new: bedOf", x.bedOf(0, 0));
        due.none("new: roofOf", x.roofOf(0, 0));
        due.none("new: fault", x.fault());
        due.none("new: worst", x.worst(0));
        due.none("new: complaint", x.complaint(0, 0));
        due.is("new: tried", x.tried(0, 0), 0);
        due.is("new: best", x.best(4, 99999, 10000, 1), 0);
        due.is("new: crew", x.crew(60, 1), 0);
        due.is("new: storm", x.storm(), 0);
        RainStreets y = new RainStreets();
        x.corner(1, 1, 0, 0);
        due.is("objects share nothing", y.count(1), 0);
    }

    private static void corners() {
        RainStreets x = new RainStreets();
        int[][] wrong = {
            {0, 1, 0, 0}, {101, 1, 0, 0}, {1, 0, 0, 0}, {1, 501, 0, 0}, {1, 1, -1, 0}, {1, 1, 10, 0},
            {1, 1, 0, -1}, {1, 1, 0, 501}, {Integer.MIN_VALUE, 1, 0, 0}, {1, Integer.MAX_VALUE, 0, 0}
        };
        for (int[] w : wrong) {
            due.none("wrong corner", x.corner(w[0], w[1], w[2], w[3]));
        }
        due.is("wrong corners do nothing", x.count(1), 0);
        due.is("least corner", x.corner(1, 1, 0, 0), 0);
        due.is("greatest corner", x.corner(100, 500, 9, 500), 1);
        due.row("greatest corner", w -> x.told(1, w), 100, 500, 9, 500, -1, 0, 0, 0, 0, -1);
        for (int i = 2; i < 12; i++) {
            due.is("corner", x.corner(5, 5, 5, 5), i);
        }
        due.none("a 13th corner", x.corner(5, 5, 5, 5));
        due.is("12 corners", x.count(1), 12);
    }

    private static void below() {
        RainStreets x = new RainStreets();
        due.no("below of no corner", x.below(0, -1));
        x.corner(1, 1, 0, 0);
        x.corner(1, 1, 0, 0);
        x.corner(1, 1, 0, 0);
        due.yes("below a greater one", x.below(0, 2));
        due.is("told below", x.told(0, 4), 2);
        due.no("below itself", x.below(1, 1));
        due.no("below a lesser one", x.below(1, 0));
        due.no("below one that isn't there", x.below(0, 3));
        due.no("below -2", x.below(0, -2));
        due.no("no such corner", x.below(3, -1));
        due.no("no such corner -1", x.below(-1, -1));
        due.no("far", x.below(Integer.MAX_VALUE, Integer.MAX_VALUE));
        due.is("below stays", x.told(0, 4), 2);
        due.yes("below another", x.below(0, 1));
        due.is("told below another", x.told(0, 4), 1);
        due.yes("to the works", x.below(0, -1));
        due.none("told the works", x.told(0, 4));
    }

    private static void roofs() {
        RainStreets x = new RainStreets();
        due.none("a roof without a corner", x.roof(0, 0, 1, 0));
        x.corner(1, 1, 0, 0);
        int[][] wrong = {
            {-1, 0, 1, 0}, {1, 0, 1, 0}, {0, -1, 1, 0}, {0, 20, 1, 0}, {0, 0, 0, 0}, {0, 0, 51, 0},
            {0, 0, 1, -1}, {0, 0, 1, 201}
        };
        for (int[] w : wrong) {
            due.none("wrong roof", x.roof(w[0], w[1], w[2], w[3]));
        }
        due.is("wrong roofs do nothing", x.count(2), 0);
        due.is("least roof", x.roof(0, 0, 1, 0), 0);
        due.is("greatest roof", x.roof(0, 19, 50, 200), 1);
        for (int i = 2; i < 30; i++) {
            due.is("roof", x.roof(0, 1, 2, 3), i);
        }
        due.none("a 31st roof", x.roof(0, 1, 2, 3));
        due.is("30 roofs", x.count(2), 30);
    }

    private static void lots() {
        RainStreets x = new RainStreets();
        x.corner(1, 1, 0, 0);
        x.bed(0, 9, 1, false);
        due.is("20 at first", x.bedOf(0, 10), 20);
        due.yes("greatest lot", x.lot(9, 100));
        due.is("100 drunk", x.bedOf(0, 10), 100);
        due.yes("least drink", x.lot(9, 1));
        due.is("1 drunk", x.bedOf(0, 10), 1);
        due.no("lot 10", x.lot(10, 5));
        due.no("lot -1", x.lot(-1, 5));
        due.no("drinks 0", x.lot(9, 0));
        due.no("drinks 101", x.lot(9, 101));
        due.yes("another lot", x.lot(0, 50));
        due.is("others stay", x.bedOf(0, 10), 1);
    }

    private static void beds() {
        RainStreets x = new RainStreets();
        due.no("a bed without a corner", x.bed(0, 0, 1, false));
        x.corner(1, 1, 0, 0);
        x.corner(1, 1, 0, 0);
        due.no("corner -1", x.bed(-1, 0, 1, false));
        due.no("corner 2", x.bed(2, 0, 1, false));
        due.no("lot -1", x.bed(0, -1, 1, false));
        due.no("lot 10", x.bed(0, 10, 1, false));
        due.no("bowl 0", x.bed(0, 0, 0, false));
        due.no("bowl 501", x.bed(0, 0, 501, false));
        due.is("wrong beds do nothing", x.count(3), 0);
        due.is("no bed told", x.told(0, 5), 0);
        due.yes("least bed", x.bed(0, 0, 1, false));
        x.pass(3);
        due.yes("greatest bed", x.bed(1, 9, 500, true));
        due.row("least bed", w -> x.bedOf(0, w), 0, 1, 0, 0, 6);
        due.row("greatest bed", w -> x.bedOf(1, w), 9, 500, 1, 3, 0, 0, 0, 1, 0, 0, 20, -1, -1, -1, -1);
        due.no("one is there", x.bed(1, 0, 1, false));
        due.is("it stays", x.bedOf(1, 1), 500);
        due.is("a bed told", x.told(0, 5), 1);
        due.is("beds", x.count(3), 2);
    }

    private static void parking() {
        RainStreets x = new RainStreets();
        int[] parking = {9, 8, 4, 3, 0};
        for (int p : parking) {
            x.corner(1, 1, p, 0);
        }
        due.yes("9", x.bed(0, 0, 1, false));
        due.yes("17", x.bed(1, 0, 1, false));
        due.no("21 is above 20", x.bed(2, 0, 1, false));
        due.yes("20 isn't", x.bed(3, 0, 1, false));
        due.is("parking", x.count(4), 20);
        Due.ruled(x, "parking 24;");
        due.yes("24 by the rules of today", x.bed(2, 0, 1, false));
        Due.ruled(x, "parking 23;");
        due.no("even 0 more would be above", x.bed(4, 0, 1, false));
        Due.ruled(x, "parking 24;");
        due.yes("0 more", x.bed(4, 0, 1, false));
        RainStreets y = new RainStreets();
        y.corner(1, 1, 1, 0);
        Due.ruled(y, "parking 0;");
        due.no("parking 0", y.bed(0, 0, 1, false));
        due.is("a corner without a bed counts nothing", y.count(4), 0);
    }

    private static void care() {
        RainStreets x = new RainStreets();
        x.corner(1, 1, 0, 0);
        x.corner(1, 1, 0, 0);
        x.corner(1, 1, 0, 0);
        Due.ruled(x, "clog 40; leaves 0 to 364;");
        x.bed(0, 0, 1, false);
        x.bed(1, 0, 1, false);
        x.pass(2);
        due.is("clog ahead", x.bedOf(0, 4), 80);
        due.is("leaves ahead", x.bedOf(0, 5), 2);
        due.no("no bed", x.care(2, 0));
        due.no("no corner", x.care(3, 0));
        due.no("by -1", x.care(0, -1));
        due.no("by 11", x.care(0, 11));
        due.is("wrong care does nothing", x.bedOf(0, 4), 80);
        due.yes("by the crew", x.care(0, 10));
        due.is("30 less", x.bedOf(0, 4), 50);
        due.is("no leaves", x.bedOf(0, 5), 0);
        due.no("the crew did", x.care(0, 10));
        due.is("once a day", x.bedOf(0, 4), 50);
        due.yes("by a neighbour", x.care(0, 0));
        due.is("30 less again", x.bedOf(0, 4), 20);
        due.yes("by another", x.care(0, 9));
        due.is("0 at least", x.bedOf(0, 4), 0);
        due.no("the neighbour did", x.care(0, 9));
        due.is("the other bed stays", x.bedOf(1, 4), 80);
        due.yes("another bed on the same day", x.care(1, 9));
        x.pass(1);
        due.yes("another day", x.care(0, 9));
        RainStreets y = new RainStreets();
        y.corner(1, 1, 0, 0);
        y.bed(0, 0, 1, false);
        due.yes("on the first day", y.care(0, 0));
        due.no("once on the first day", y.care(0, 0));
    }

    private static void treat() {
        RainStreets x = new RainStreets();
        x.corner(1, 1, 0, 0);
        x.corner(1, 1, 0, 0);
        x.bed(0, 0, 1, false);
        due.no("no bed", x.treat(1, 0));
        due.no("no corner", x.treat(2, 0));
        due.no("no corner -1", x.treat(-1, 0));
        due.no("what -1", x.treat(0, -1));
        due.no("what 2", x.treat(0, 2));
        due.no("plants are there", x.treat(0, 1));
        for (int i = 1; i <= 12; i++) {
            due.yes("salted", x.treat(0, 0));
            due.is("salt", x.bedOf(0, 6), Math.min(100, 10 * i));
        }
        x.pass(61);
        due.is("plants dead", x.bedOf(0, 7), 0);
        due.no("what -1 without plants", x.treat(0, -1));
        due.no("what 2 without plants", x.treat(0, 2));
        due.yes("planted anew", x.treat(0, 1));
        due.is("plants there", x.bedOf(0, 7), 1);
        due.no("planted twice", x.treat(0, 1));
    }

    private static void told() {
        RainStreets x = new RainStreets();
        x.corner(10, 30, 7, 40);
        x.corner(4, 500, 2, 0);
        x.below(0, 1);
        due.row("no storm yet", w -> x.told(0, w), 10, 30, 7, 40, 1, 0, 0, 0, 0, -1);
        x.rain(12);
        x.rain(3);
        x.rain(5);
        x.storm();
        // Minutes of 120, 30 and 50: 90, 0 and 20 beyond; half runs on, half spills.
        due.row("behind a storm", w -> x.told(0, w), 10, 30, 7, 40, 1, 0, 55, 30, 1, -1);
        due.row("the corner below", w -> x.told(1, w), 4, 500, 2, 0, -1, 0, 0, 123, 0, -1);
        due.none("what -1", x.told(0, -1));
        due.none("no corner", x.told(2, 0));
        due.none("no corner -1", x.told(-1, 0));
        x.clear();
        x.rain(4);
        x.storm();
        due.row("the latest storm alone", w -> x.told(0, w), 10, 30, 7, 40, 1, 0, 5, 30, 0);
        x.clear();
        x.rain(2);
        x.storm();
        due.row("a lesser one", w -> x.told(0, w), 10, 30, 7, 40, 1, 0, 0, 20, 0);
        x.clear();
        x.storm();
        due.row("one of no minutes", w -> x.told(0, w), 10, 30, 7, 40, 1, 0, 0, 0, 0);
        x.corner(1, 1, 1, 1);
        due.row("a corner newer than the storm", w -> x.told(2, w), 1, 1, 1, 1, -1, 0, 0, 0, 0);
    }

    private static void bedOf() {
        RainStreets x = new RainStreets();
        x.corner(10, 30, 0, 0);
        x.corner(10, 30, 0, 0);
        x.lot(3, 33);
        x.bed(0, 3, 70, true);
        x.treat(0, 0);
        x.rain(9);
        x.storm();
        due.row("a bed", w -> x.bedOf(0, w), 3, 70, 1, 0, 0, 0, 10, 1, 37, 0, 33, -1, -1, -1, -1);
        x.look(0, 1);
        due.is("looked at", x.bedOf(0, 11), 1);
        due.is("drink from, cut", x.bedOf(0, 12), 16);
        due.is("drink to, cut", x.bedOf(0, 13), 26);
        x.pass(1);
        due.is("clogged", x.bedOf(0, 4), 1);
        due.is("drink, cut", x.bedOf(0, 10), 32);
        Due.ruled(x, "look 1 from 10 to 9999;");
        due.is("from by the rules of today", x.bedOf(0, 12), 3);
        due.is("to by the rules of today", x.bedOf(0, 13), 3299);
        x.look(0, 0);
        due.is("the latest look", x.bedOf(0, 11), 0);
        due.is("its from", x.bedOf(0, 12), 26);
        due.is("its to", x.bedOf(0, 13), 33);
        due.none("no bed", x.bedOf(1, 0));
        due.none("no corner", x.bedOf(2, 0));
        due.none("no corner -1", x.bedOf(-1, 0));
        due.none("what -1", x.bedOf(0, -1));
    }

    private static void roofOf() {
        RainStreets x = new RainStreets();
        x.corner(10, 30, 0, 0);
        x.corner(10, 30, 0, 0);
        x.roof(1, 7, 6, 25);
        x.rain(3);
        due.row("a roof", w -> x.roofOf(0, w), 1, 7, 6, 25, 0, -1, -1);
        x.storm();
        due.is("18 in the barrel", x.roofOf(0, 4), 18);
        x.storm();
        due.is("it's full", x.roofOf(0, 4), 25);
        x.pass(1);
        due.is("it gave 5", x.roofOf(0, 4), 20);
        due.none("no roof", x.roofOf(1, 0));
        due.none("no roof -1", x.roofOf(-1, 0));
        due.none("what -1", x.roofOf(0, -1));
    }

    private static void prove() {
        RainStreets x = new RainStreets();
        x.corner(10, 30, 0, 0);
        x.roof(0, 7, 6, 1);
        x.roof(0, 7, 6, 0);
        due.yes("a barrel", x.prove(0));
        due.yes("again", x.prove(0));
        due.no("no barrel", x.prove(1));
        due.no("no roof", x.prove(2));
        due.no("no roof -1", x.prove(-1));
        due.is("year 0", x.roofOf(0, 5), 0);
        due.none("never", x.roofOf(1, 5));
        Due.passed(x, 364);
        due.is("still year 0", x.prove(0) ? x.roofOf(0, 5) : -2, 0);
        x.pass(1);
        due.is("year 1", x.prove(0) ? x.roofOf(0, 5) : -2, 1);
    }
}
