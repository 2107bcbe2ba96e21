/** Promises 10 to 15, 20 and 21: rain, storms, tries, the best sets, helps and storms compared. */
public final class StormsTest {
    private static final Due due = new Due();

    public static void main(String[] args) {
        rain();
        storms();
        barrels();
        bedsInStorms();
        leavesInStorms();
        cellars();
        tried();
        best();
        bestTies();
        bestBounds();
        helps();
        compare();
        compareEdges();
        due.end();
    }

    private static RainStreets chain() {
        RainStreets x = new RainStreets();
        x.corner(10, 100, 5, 0);
        x.corner(20, 60, 8, 150);
        x.corner(5, 30, 9, 0);
        x.below(0, 1);
        x.below(1, 2);
        return x;
    }

    private static void rain() {
        RainStreets x = new RainStreets();
        due.none("rain -1", x.rain(-1));
        due.none("rain 51", x.rain(51));
        due.is("no minutes", x.count(5), 0);
        due.is("nothing to clear", x.clear(), 0);
        due.is("rain 0", x.rain(0), 1);
        for (int i = 2; i <= 30; i++) {
            due.is("rain 50", x.rain(50), i);
        }
        due.none("a 31st minute", x.rain(50));
        due.is("30 minutes", x.count(5), 30);
        due.is("30 cleared", x.clear(), 30);
        due.is("cleared", x.count(5), 0);
        due.is("cleared twice", x.clear(), 0);
        due.is("anew", x.rain(1), 1);
    }

    private static void storms() {
        RainStreets x = chain();
        x.rain(10);
        due.is("storm", x.storm(), 0);
        // 100 in the first pipe; 300 to a pipe of 60: 120 run on, 120 spill; 230 to a pipe of 30: 200 spill.
        due.row("stormOf", w -> x.stormOf(0, w), 0, 350, 320, 1, 30, -1);
        due.none("what -1", x.stormOf(0, -1));
        due.none("no storm", x.stormOf(1, 0));
        due.none("no storm -1", x.stormOf(-1, 0));
        due.row("sum", x::sum, 350, 0, 320, 30, 0, 0, 0);
        x.pass(2);
        x.rain(1);
        due.is("the minutes stay", x.storm(), 1);
        due.row("two minutes", w -> x.stormOf(1, w), 2, 385, 325, 1, 30);
        due.is("works of both", x.sum(3), 30 + 60);
        x.clear();
        due.is("a storm of no minutes", x.storm(), 2);
        due.row("of no minutes", w -> x.stormOf(2, w), 2, 0, 0, 0, 0);
        due.is("nothing spilt in the latest", x.told(1, 6), 0);
        for (int i = 3; i < 40; i++) {
            due.is("storm", x.storm(), i);
        }
        x.rain(50);
        due.none("a 41st storm", x.storm());
        due.is("40 told", x.count(6), 40);
        due.is("it did nothing", x.sum(0), 735);
        due.is("no half runs on to the works", worksCorner(), 41);
    }

    private static long worksCorner() {
        RainStreets x = new RainStreets();
        x.corner(7, 30, 0, 0);
        x.corner(1, 500, 0, 0);
        x.rain(10);
        x.rain(0);
        x.rain(3);
        x.storm();
        due.is("the most to the works by several corners", x.stormOf(0, 4), 40);
        due.is("works", x.sum(3), 40 + 24);
        return x.stormOf(0, 2) + 1;
    }

    private static void barrels() {
        RainStreets x = new RainStreets();
        x.corner(1, 500, 0, 0);
        x.roof(0, 0, 10, 25);
        x.roof(0, 1, 5, 0);
        x.rain(2);
        x.rain(2);
        x.storm();
        // The barrel takes 20 and 5 of 20 and 20; the other roof has none.
        due.is("barrel", x.roofOf(0, 4), 25);
        due.is("no barrel", x.roofOf(1, 4), 0);
        due.is("works", x.sum(3), 2 + 10 + 2 + 10 + 15);
        due.is("rained", x.sum(0), 64);
        due.is("in barrels", x.sum(6), 25);
    }

    private static void bedsInStorms() {
        RainStreets x = new RainStreets();
        x.corner(10, 500, 0, 0);
        x.lot(0, 30);
        x.bed(0, 0, 80, false);
        x.rain(10);
        x.rain(4);
        x.rain(0);
        x.storm();
        // 100: 80 go in, 30 are drunk; 40: 30 go in, 30 are drunk; 0: 30 are drunk.
        due.is("in the bowl", x.bedOf(0, 8), 20);
        due.is("drunk", x.sum(1), 90);
        due.is("works", x.sum(3), 30);
        due.is("in bowls", x.sum(4), 20);
        x.storm();
        due.is("what the bowl had is drunk as the storm begins", x.sum(1), 90 + 20 + 90);
        due.is("and it had its room", x.bedOf(0, 8), 20);
        x.clear();
        x.storm();
        due.is("even of a storm of no minutes", x.sum(1), 220);
        due.is("empty", x.bedOf(0, 8), 0);
        due.is("days it stands are of days alone", x.bedOf(0, 9), 0);
    }

    private static void leavesInStorms() {
        RainStreets x = new RainStreets();
        x.corner(9, 500, 0, 0);
        Due.ruled(x, "leaves 0 to 364; clog 0;");
        x.bed(0, 0, 500, false);
        x.pass(3);
        x.rain(1);
        x.storm();
        due.is("7 tenths of 9, cut", x.sum(1), 6);
        due.is("the rest to the works", x.sum(3), 3);
        x.pass(7);
        due.is("full of leaves", x.bedOf(0, 5), 10);
        x.storm();
        due.is("nothing goes in", x.sum(1), 6);
    }

    private static void cellars() {
        RainStreets x = new RainStreets();
        x.corner(10, 50, 0, 50);
        x.corner(10, 50, 0, 49);
        x.corner(10, 50, 0, 0);
        x.rain(10);
        x.storm();
        due.is("50 isn't more than 50", x.told(0, 8), 0);
        due.is("50 is more than 49", x.told(1, 8), 1);
        due.is("no cellar", x.told(2, 8), 0);
        due.is("wet minutes", x.stormOf(0, 3), 1);
        x.below(1, 2);
        x.rain(10);
        x.storm();
        due.is("what runs on counts too", x.told(1, 8), 2);
        due.is("wet minutes of all", x.stormOf(1, 3), 2);
    }

    private static void tried() {
        RainStreets x = chain();
        x.rain(10);
        due.is("without", x.tried(0, 0), 320);
        due.is("without, wet", x.tried(0, 1), 1);
        due.is("at 0", x.tried(1, 0), 220);
        due.is("at 0, wet", x.tried(1, 1), 0);
        due.is("at all", x.tried(7, 0), 50);
        due.none("a corner that isn't there", x.tried(8, 0));
        due.none("set -1", x.tried(-1, 0));
        due.none("set of the highest bit", x.tried(Integer.MIN_VALUE, 0));
        due.none("what -1", x.tried(0, -1));
        due.none("what 2", x.tried(0, 2));
        x.bed(0, 1, 40, true);
        due.none("one has a bed", x.tried(1, 0));
        due.none("one of several has a bed", x.tried(3, 0));
        due.is("with the bed that is there", x.tried(0, 0), 280);
        due.is("with another", x.tried(2, 0), 180);
        x.lot(0, 1);
        x.lot(1, 99);
        newDrinks();
        x.rain(1);
        x.storm();
        long[] sums = new long[7];
        for (int i = 0; i < 7; i++) {
            sums[i] = x.sum(i);
        }
        due.is("bowls are as empty as when a storm begins", x.tried(2, 0), 180);
        x.roof(1, 0, 10, 60);
        long ahead = x.tried(0, 0);
        due.is("nothing changes", x.tried(0, 0), ahead);
        due.row("nothing changes in sums", x::sum, sums);
        due.is("no barrel fills", x.roofOf(0, 4), 0);
        due.is("no storm is told", x.count(6), 1);
        due.is("the latest storm stays", x.told(0, 6), 0);
        x.storm();
        due.is("as the storm came", x.stormOf(1, 2), ahead);
        due.is("barrels as they are now", x.tried(0, 0) > ahead, true);
    }

    private static void newDrinks() {
        RainStreets x = new RainStreets();
        x.corner(10, 10, 0, 0);
        x.lot(0, 7);
        x.lot(1, 70);
        x.rain(10);
        x.rain(3);
        // 100 go in, 7 are drunk; of 30 just 7 have room, 23 go to a pipe of 10.
        due.is("a new bed drinks what lot 0 drinks", x.tried(1, 0), 13);
        x.lot(0, 100);
        due.is("more", x.tried(1, 0), 0);
    }

    private static void best() {
        RainStreets x = chain();
        x.rain(10);
        due.row("one", w -> x.best(1, 9999, 0, w), 220, 1, 150, 220, 0, -1);
        due.row("coins for one", w -> x.best(4, 150, 0, w), 220, 1, 150, 220, 0);
        due.row("coins for none", w -> x.best(4, 149, 0, w), 320, 0, 0, 320, 1);
        due.row("coins for one, less one", w -> x.best(4, 299, 0, w), 220, 1, 150, 220, 0);
        due.row("none, weighed", w -> x.best(0, 99999, 10000, w), 10320, 0, 0, 320, 1);
        due.row("two", w -> x.best(2, 300, 7, w), 120, 3, 300, 120, 0);
        due.row("parking lets no three", w -> x.best(3, 9999, 0, w), 120, 3, 300, 120, 0);
        Due.ruled(x, "parking 22; cost 7 bowl 3;");
        due.row("by the rules of today", w -> x.best(3, 9999, 0, w), 50, 7, 921, 50, 0);
        x.bed(0, 0, 100, false);
        due.row("of corners without a bed", w -> x.best(1, 9999, 0, w), 120, 2, 307, 120, 0);
        due.none("what -1", x.best(1, 9999, 0, -1));
        due.none("k -1", x.best(-1, 9999, 0, 0));
        due.none("k 5", x.best(5, 9999, 0, 0));
        due.none("coins -1", x.best(1, -1, 0, 0));
        due.none("coins 100000", x.best(1, 100000, 0, 0));
        due.none("w -1", x.best(1, 9999, -1, 0));
        due.none("w 10001", x.best(1, 9999, 10001, 0));
        due.is("the greatest arguments", x.best(4, 99999, 10000, 1), 6);
        due.is("the least arguments", x.best(0, 0, 0, 1), 0);
        due.is("nothing changes", x.count(3), 1);
    }

    private static void bestTies() {
        RainStreets x = new RainStreets();
        x.corner(10, 500, 0, 0);
        x.corner(10, 50, 0, 0);
        x.corner(10, 50, 0, 0);
        x.rain(10);
        due.is("of several the fewest, then the least", x.best(1, 99999, 0, 1), 2);
        due.is("corner 0 spares nothing", x.best(3, 99999, 0, 1), 6);
        x.clear();
        due.is("no rain: none", x.best(4, 99999, 10000, 1), 0);
        RainStreets y = new RainStreets();
        y.corner(1, 500, 0, 0);
        y.corner(1, 500, 0, 0);
        y.corner(100, 1, 0, 0);
        y.corner(20, 30, 0, 40);
        y.below(0, 3);
        y.below(1, 3);
        y.rain(3);
        // The third corner spares the most of what spills; the fourth one's cellar weighs more.
        due.is("without weight", y.best(1, 99999, 0, 1), 4);
        due.is("with the weight of wet minutes", y.best(1, 99999, 1000, 1), 4);
        y.clear();
        y.rain(4);
        due.is("by weight", y.best(1, 99999, 1000, 1), 8);
        due.is("its weight", y.best(1, 99999, 1000, 0), y.tried(8, 0) + 1000 * y.tried(8, 1));
        due.is("none of equal weight left out for a lesser one of more", fewest(), 4);
    }

    /** Beds at 0 and 1 together spare as much as one at 2: it's the fewest that counts, ahead of the number. */
    private static long fewest() {
        RainStreets x = new RainStreets();
        x.corner(5, 30, 5, 0);
        x.corner(5, 30, 5, 0);
        x.corner(10, 60, 9, 0);
        Due.ruled(x, "parking 10;");
        x.rain(10);
        due.is("20 of each", x.tried(0, 0), 80);
        due.is("0 and 1", x.tried(3, 0), 40);
        due.is("2 alone", x.tried(4, 0), 40);
        return x.best(2, 99999, 0, 1);
    }

    private static void bestBounds() {
        RainStreets x = chain();
        x.rain(10);
        x.bed(2, 0, 100, false);
        Due.ruled(x, "parking 8;");
        due.none("beds that are there take more parking than there may be", x.best(1, 9999, 0, 0));
        due.none("so there's no set", x.best(0, 9999, 0, 1));
        Due.ruled(x, "parking 9;");
        due.is("none but the empty one", x.best(4, 9999, 0, 1), 0);
        Due.ruled(x, "parking 14;");
        due.is("with that of corners with beds", x.best(4, 9999, 0, 1), 1);
        RainStreets y = new RainStreets();
        for (int i = 0; i < 12; i++) {
            y.corner(100, 100, 0, 1);
        }
        for (int i = 0; i < 30; i++) {
            y.rain(50);
        }
        due.is("four of twelve", y.best(4, 99999, 10000, 1), 15);
        due.is("all wet minutes", y.best(4, 99999, 10000, 4), 360);
    }

    private static void helps() {
        RainStreets x = chain();
        x.rain(10);
        due.is("0 for 1", x.helps(0, 1), 50);
        due.is("0 for 2", x.helps(0, 2), 50);
        due.is("0 for itself", x.helps(0, 0), 0);
        due.is("1 for itself", x.helps(1, 1), 50);
        due.is("2 for itself", x.helps(2, 2), 100);
        due.is("1 for the one above", x.helps(1, 0), 0);
        RainStreets y = new RainStreets();
        y.corner(10, 30, 0, 0);
        y.rain(12);
        due.is("corner 0 for itself", y.helps(0, 0), 90);
        due.none("no corner", x.helps(3, 0));
        due.none("no corner -1", x.helps(-1, 0));
        due.none("for no corner", x.helps(0, 3));
        due.none("for no corner -1", x.helps(0, -1));
        x.bed(1, 0, 10, false);
        due.none("one is there", x.helps(1, 2));
        due.is("for one with a bed", x.helps(0, 1), 50);
        Due.ruled(x, "parking 0; cost 9999 bowl 9999;");
        due.is("neither parking nor coins matter", x.helps(0, 1), 50);
        due.is("nothing changes", x.count(3), 1);
    }

    private static void rained(RainStreets x, int... minutes) {
        x.clear();
        for (int m : minutes) {
            x.rain(m);
        }
        x.storm();
        x.pass(1);
    }

    private static void compare() {
        RainStreets x = new RainStreets();
        x.corner(10, 100, 0, 0);
        rained(x, 20);      // day 0: 200, 100 spilt
        rained(x, 21);      // day 1: 210, 110 spilt
        rained(x, 19);      // day 2: 190, 90 spilt
        rained(x, 40);      // day 3: 400, 300 spilt
        x.bed(0, 0, 40, false);
        rained(x, 20);      // day 4: 200, 60 spilt: like the one of day 0
        rained(x, 50);      // day 5: 500: none like it
        rained(x, 44);      // day 6: 440, 300 spilt: like that of day 3
        due.row("day 4", w -> x.compare(4, w), 2, 400, 360, 0, -1);
        due.row("day 5", w -> x.compare(5, w), 1, 300, 300, 0);
        due.row("day 6", w -> x.compare(6, w), 1, 300, 300, 0);
        due.row("day 7", w -> x.compare(7, w), 0, 0, 0, 0);
        due.row("day 0: none ahead", w -> x.compare(0, w), 0, 0, 0, 0);
        due.row("day 3", w -> x.compare(3, w), 1, 100, 60, 1);
        Due.ruled(x, "doubt 9;");
        // 440 to 400 is more than 9 hundredths of 440.
        due.row("less doubt", w -> x.compare(4, w), 1, 100, 60, 1);
        Due.ruled(x, "doubt 40;");
        due.row("more doubt", w -> x.compare(4, w), 3, 700, 720, 0);
        due.none("what -1", x.compare(4, -1));
        due.none("day -1", x.compare(-1, 0));
        due.none("day 3650", x.compare(3650, 0));
        due.is("day 3649", x.compare(3649, 0), 0);
    }

    private static void compareEdges() {
        RainStreets x = new RainStreets();
        x.corner(10, 100, 0, 0);
        rained(x, 20);
        rained(x, 0, 20);
        x.bed(0, 0, 10, false);
        rained(x, 20);
        // 100 and 90 spilt: less by 10 of 100, not by more.
        due.row("just 10 hundredths", w -> x.compare(2, w), 1, 100, 90, 0);
        Due.ruled(x, "doubt 9;");
        due.is("more than 9", x.compare(2, 3), 1);
        Due.ruled(x, "doubt 0;");
        due.is("the same rain alone", x.compare(2, 0), 1);
        RainStreets v = new RainStreets();
        v.corner(100, 10, 0, 0);
        rained(v, 20);
        v.bed(0, 0, 180, false);
        v.lot(0, 100);
        rained(v, 20);
        // 1990 and 1810 spilt: less by 180, which is more than 9 hundredths of 1990, and less than 10.
        due.is("less than 10", v.compare(1, 3), 0);
        Due.ruled(v, "doubt 9;");
        due.row("finely more than 9", w -> v.compare(1, w), 1, 1990, 1810, 1);
        RainStreets y = new RainStreets();
        y.corner(10, 100, 0, 0);
        rained(y, 20, 2);   // 220, 100 spilt
        rained(y, 22);      // 220, 120 spilt
        rained(y, 18);      // 180, 80 spilt
        rained(y, 20);      // 200, 100 spilt
        Due.ruled(y, "doubt 10;");
        due.row("of several as near the latest", w -> y.compare(3, w), 1, 80, 100, 0);
        due.row("of those as much the latest", w -> y.compare(2, w), 1, 120, 100, 1);
        due.row("doubt of its own rain, not of the other's", w -> y.compare(3, w), 1, 80, 100, 0);
        RainStreets z = new RainStreets();
        z.corner(100, 100, 0, 0);
        rained(z, 10);      // 1000
        rained(z, 9);       // 900: 100 apart is more than 10 hundredths of 900
        due.is("of the later one's", z.compare(1, 0), 0);
        rained(z, 10);
        due.row("each with one ahead, one ahead for several", w -> z.compare(1, w), 1, 900, 900, 0);
        rained(z, 10);
        due.row("one ahead for several", w -> z.compare(2, w), 2, 1800, 1800, 0);
    }
}
