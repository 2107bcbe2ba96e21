/** The sentences on corners, roofs, lots and beds that name a bound, each by its name: promises 1 to 8 and 16 to 19. */
public final class EdgesOfPlacesTest {
    private static final Due due = new Due();

    public static void main(String[] args) {
        calls();
        newObject();
        emptyRefuses();
        manyCorners();
        cornerNumbers();
        below();
        noCellar();
        manyRoofs();
        roofNumbers();
        lots();
        newLots();
        bedNumbers();
        bedRefused();
        newBeds();
        drink();
        parkingOfBeds();
        careNumbers();
        careRefused();
        cared();
        treatNumbers();
        treatRefused();
        salted();
        told();
        bedOf();
        roofOf();
        prove();
        years();
        due.end();
    }

    private static RainStreets oneCorner() {
        RainStreets x = new RainStreets();
        x.corner(10, 20, 5, 0);
        return x;
    }

    private static RainStreets oneBed() {
        RainStreets x = oneCorner();
        x.bed(0, 0, 50, false);
        return x;
    }

    private static void calls() {
        due.says("An object is used for at most 512 calls after it has been made");
        RainStreets x = oneBed();
        for (int call = 3; call < 512; call++) {
            due.is("a call", call % 2 == 0 ? x.clear() : x.rain(1), 1);
        }
        due.is("the 512th", x.storm(), 0);
    }

    private static void newObject() {
        due.says("The constants: `NONE = -1`: There is none.");
        due.is("NONE", RainStreets.NONE, -1);
        due.says("`RainStreets()`: No corners, RULES; no storm is told.");
        for (int what = 0; what <= 12; what++) {
            due.is("count " + what, new RainStreets().count(what), 0);
        }
        for (int what = 0; what <= 6; what++) {
            due.is("sum " + what, new RainStreets().sum(what), 0);
        }
        RainStreets x = new RainStreets();
        due.none("no corner", x.told(0, 0));
        due.none("no bed", x.bedOf(0, 0));
        due.none("no roof", x.roofOf(0, 0));
        due.none("no complaint", x.complaint(0, 0));
        due.none("no rules", x.law(0, 22));
        due.none("no storm", x.stormOf(0, 0));
        due.none("no fault", x.fault());
        due.is("nothing spills", x.tried(0, 0), 0);
        due.is("no wet minutes", x.tried(0, 1), 0);
        due.row("no set but the empty one", w -> x.best(4, 99999, 10000, w), 0, 0, 0, 0, 0);
        due.row("no bed for the crew", w -> x.crew(60, w), 0, 0, 0);
        due.row("no storms to compare", w -> x.compare(0, w), 0, 0, 0, 0);
        due.none("no lot has looks", x.worst(0));
        due.is("no fee", x.fee(0, 0), 0);
        due.is("a day without anything", x.pass(1), 1);
        due.is("a storm over nothing", x.storm(), 0);
        due.row("it told nothing", w -> x.stormOf(0, w), 1, 0, 0, 0, 0);
    }

    private static void emptyRefuses() {
        due.says("`RainStreets()`: No corners, RULES; no storm is told.");
        Twins.no(due, "below 0 NONE", Twins::empty, x -> x.below(0, -1));
        Twins.none(due, "roof at 0", Twins::empty, x -> x.roof(0, 0, 1, 0));
        Twins.no(due, "bed at 0", Twins::empty, x -> x.bed(0, 0, 1, false));
        Twins.no(due, "care at 0", Twins::empty, x -> x.care(0, 0));
        Twins.no(due, "treat at 0", Twins::empty, x -> x.treat(0, 0));
        Twins.none(due, "tried at 0", Twins::empty, x -> x.tried(1, 0));
        Twins.none(due, "helps at 0", Twins::empty, x -> x.helps(0, 0));
        Twins.no(due, "prove 0", Twins::empty, x -> x.prove(0));
        Twins.none(due, "turn at 0", Twins::empty, x -> x.turn(0, 0, 0));
        Twins.none(due, "look at 0", Twins::empty, x -> x.look(0, 0));
        Twins.none(due, "worst", Twins::empty, x -> x.worst(0));
        Twins.none(due, "complain at 0", Twins::empty, x -> x.complain(0, 0));
        Twins.no(due, "close 0", Twins::empty, x -> x.close(0));
        Twins.refused(due, "rules 1", Twins::empty, -2, x -> x.rules(1));
        Twins.refused(due, "clear", Twins::empty, 0, x -> x.clear());
    }

    private static void manyCorners() {
        due.says("CORNERS, up to 12, numbered as they come");
        RainStreets x = new RainStreets();
        for (int corner = 0; corner < 12; corner++) {
            due.is("a corner", x.corner(1 + corner, 1, 0, 0), corner);
            due.is("how many", x.count(1), corner + 1);
            due.is("its area", x.told(corner, 0), 1 + corner);
        }
        due.none("a 13th", x.corner(1, 1, 0, 0));
        due.is("still", x.count(1), 12);
        due.says("A corner (below it: the works): its number. NONE, doing nothing: not as told, 12 are there.");
        due.none("below the last: the works", x.told(11, 4));
        Twins.none(due, "a 13th", Twins::full, y -> y.corner(1, 1, 0, 0));
    }

    private static void cornerNumbers() {
        due.says("an AREA 1 to 100 of street");
        Twins.span(due, "area", 1, 100, Twins::lively, 4, -1, (x, n) -> x.corner(n, 1, 0, 0));
        due.says("a PIPE that carries 1 to 500 a minute");
        Twins.span(due, "pipe", 1, 500, Twins::lively, 4, -1, (x, n) -> x.corner(1, n, 0, 0));
        due.says("PARKING 0 to 9");
        Twins.span(due, "parking", 0, 9, Twins::lively, 4, -1, (x, n) -> x.corner(1, 1, n, 0));
        due.says("a CELLAR 0 to 500 (0: none)");
        Twins.span(due, "cellar", 0, 500, Twins::lively, 4, -1, (x, n) -> x.corner(1, 1, 0, n));
        due.says("NONE, doing nothing: not as told, 12 are there.");
        RainStreets x = new RainStreets();
        x.corner(1, 1, 0, 0);
        x.corner(100, 500, 9, 500);
        due.row("the least", w -> x.told(0, w), 1, 1, 0, 0, -1);
        due.row("the greatest", w -> x.told(1, w), 100, 500, 9, 500, -1);
        due.none("nothing as told", x.corner(0, 501, -1, 501));
        due.is("the next", x.corner(1, 1, 0, 0), 2);
    }

    private static void below() {
        due.says("to the corner below (of a greater number; else to the works)");
        due.yes("the next", Twins.full().below(3, 4));
        due.yes("the last", Twins.full().below(0, 11));
        due.yes("of the one ahead of the last", Twins.full().below(10, 11));
        Twins.no(due, "one behind the last", Twins::full, x -> x.below(0, 12));
        Twins.no(due, "itself", Twins::full, x -> x.below(3, 3));
        Twins.no(due, "the first itself", Twins::full, x -> x.below(0, 0));
        Twins.no(due, "the last itself", Twins::full, x -> x.below(11, 11));
        Twins.no(due, "one less", Twins::full, x -> x.below(3, 2));
        Twins.no(due, "the first", Twins::full, x -> x.below(11, 0));
        Twins.no(due, "the greatest number", Twins::full, x -> x.below(0, Integer.MAX_VALUE));
        Twins.no(due, "the least number", Twins::full, x -> x.below(0, Integer.MIN_VALUE));
        due.says("The corner below (NONE: the works): true; false: not as told.");
        due.yes("the works, below the last", Twins.full().below(11, -1));
        RainStreets x = Twins.full();
        due.is("a corner", x.told(0, 4), 1);
        due.yes("the works", x.below(0, -1));
        due.none("the works", x.told(0, 4));
        Twins.no(due, "-2", Twins::full, y -> y.below(0, -2));
        Twins.no(due, "of corner 12", Twins::full, y -> y.below(12, -1));
        Twins.no(due, "of corner -1", Twins::full, y -> y.below(-1, 5));
        Twins.no(due, "of corner -1, the works", Twins::full, y -> y.below(-1, -1));
        Twins.no(due, "of corner -2", Twins::full, y -> y.below(-2, -1));
        Twins.no(due, "of the greatest", Twins::full, y -> y.below(Integer.MAX_VALUE, -1));
        Twins.no(due, "of the greatest, the least", Twins::full, y -> y.below(Integer.MAX_VALUE, Integer.MIN_VALUE));
    }

    private static void noCellar() {
        due.says("a CELLAR 0 to 500 (0: none)");
        RainStreets x = new RainStreets();
        x.corner(100, 1, 0, 0);
        x.corner(2, 1, 0, 1);
        x.corner(3, 1, 0, 1);
        x.corner(100, 100, 0, 500);
        x.rain(1);
        x.storm();
        due.is("none: 99 beyond", x.told(0, 8), 0);
        due.is("a cellar of 1: 1 beyond", x.told(1, 8), 0);
        due.is("a cellar of 1: 2 beyond", x.told(2, 8), 1);
        x.clear();
        x.rain(6);
        x.storm();
        due.is("a cellar of 500: 500 beyond", x.told(3, 8), 0);
        x.clear();
        x.rain(7);
        x.storm();
        due.is("a cellar of 500: 600 beyond", x.told(3, 8), 1);
        due.is("none: 699 beyond", x.told(0, 8), 0);
    }

    private static void manyRoofs() {
        due.says("ROOFS, up to 30, at corners");
        RainStreets x = oneCorner();
        for (int roof = 0; roof < 30; roof++) {
            due.is("a roof", x.roof(0, 0, 1 + roof, 0), roof);
            due.is("how many", x.count(2), roof + 1);
            due.is("its area", x.roofOf(roof, 2), 1 + roof);
        }
        due.none("a 31st", x.roof(0, 0, 1, 0));
        due.is("still", x.count(2), 30);
        due.says("A ROOF: its number. NONE, doing nothing: not as told, 30 are there.");
        Twins.none(due, "a 31st", Twins::full, y -> y.roof(0, 0, 1, 0));
        Twins.none(due, "at corner -1", Twins::lively, y -> y.roof(-1, 0, 1, 0));
        Twins.none(due, "at corner 4 of 4", Twins::lively, y -> y.roof(4, 0, 1, 0));
        Twins.none(due, "at the greatest", Twins::lively, y -> y.roof(Integer.MAX_VALUE, 0, 1, 0));
        due.is("at the last corner", Twins.lively().roof(3, 0, 1, 0), 3);
    }

    private static void roofNumbers() {
        due.says("an OWNER 0 to 19");
        Twins.span(due, "owner", 0, 19, Twins::lively, 3, -1, (x, n) -> x.roof(0, n, 1, 0));
        due.says("an AREA 1 to 50");
        Twins.span(due, "area", 1, 50, Twins::lively, 3, -1, (x, n) -> x.roof(0, 0, n, 0));
        due.says("a BARREL that holds 0 to 200 (empty at first)");
        Twins.span(due, "barrel", 0, 200, Twins::lively, 3, -1, (x, n) -> x.roof(0, 0, 1, n));
        RainStreets x = oneCorner();
        x.roof(0, 0, 1, 0);
        x.roof(0, 19, 50, 200);
        due.row("the least", w -> x.roofOf(0, w), 0, 0, 1, 0, 0, -1);
        due.row("the greatest", w -> x.roofOf(1, w), 0, 19, 50, 200, 0, -1);
        due.is("empty", x.sum(6), 0);
        for (int minute = 0; minute < 4; minute++) {
            x.rain(1);
        }
        x.storm();
        due.is("it holds 200", x.roofOf(1, 4), 200);
        x.storm();
        due.is("and no more", x.roofOf(1, 4), 200);
        due.is("one of 0 holds nothing", x.roofOf(0, 4), 0);
    }

    private static void lots() {
        due.says("What a LOT drinks: true; false: not as told.");
        Twins.span(due, "lot", 0, 9, Twins::lively, 1, 0, (x, n) -> x.lot(n, 5) ? 1 : 0);
        due.says("drink 1 to 100 a minute");
        Twins.span(due, "drinks", 1, 100, Twins::lively, 1, 0, (x, n) -> x.lot(1, n) ? 1 : 0);
        RainStreets x = oneCorner();
        x.bed(0, 0, 1, false);
        x.lot(0, 1);
        due.is("the least", x.bedOf(0, 10), 1);
        x.lot(0, 100);
        due.is("the greatest", x.bedOf(0, 10), 100);
    }

    private static void newLots() {
        due.says("LOTS of soil 0 to 9 drink 1 to 100 a minute (20 at first)");
        RainStreets x = new RainStreets();
        for (int lot = 0; lot < 10; lot++) {
            x.corner(1, 1, 0, 0);
            due.yes("a bed of it", x.bed(lot, lot, 1, false));
            due.is("its lot", x.bedOf(lot, 0), lot);
            due.is("20 at first", x.bedOf(lot, 10), 20);
        }
        due.yes("the first", x.lot(0, 7));
        due.yes("the last", x.lot(9, 8));
        for (int lot = 0; lot < 10; lot++) {
            due.is("each by itself", x.bedOf(lot, 10), lot == 0 ? 7 : lot == 9 ? 8 : 20);
        }
    }

    private static void bedNumbers() {
        due.says("A BED is made: true. False, doing nothing: not as told, one is there");
        Twins.span(due, "lot", 0, 9, Twins::lively, 1, 0, (x, n) -> x.bed(2, n, 5, true) ? 1 : 0);
        due.says("a BOWL 1 to 500");
        Twins.span(due, "bowl", 1, 500, Twins::lively, 1, 0, (x, n) -> x.bed(2, 0, n, true) ? 1 : 0);
        RainStreets x = oneCorner();
        x.corner(50, 500, 0, 0);
        x.lot(0, 1);
        x.bed(0, 0, 1, false);
        x.bed(1, 0, 500, false);
        x.rain(12);
        x.storm();
        due.is("a bowl of 1 takes 1 and drinks it", x.bedOf(0, 8), 0);
        due.is("a bowl of 500 takes 500 and drinks 1", x.bedOf(1, 8), 499);
    }

    private static void bedRefused() {
        due.says("False, doing nothing: not as told, one is there, PARKING of all with BEDS would be above PARKING (TODAY).");
        Twins.no(due, "corner -1", Twins::lively, x -> x.bed(-1, 0, 1, false));
        Twins.no(due, "corner 4 of 4", Twins::lively, x -> x.bed(4, 0, 1, false));
        Twins.no(due, "the greatest", Twins::lively, x -> x.bed(Integer.MAX_VALUE, 0, 1, false));
        Twins.no(due, "one is there", Twins::lively, x -> x.bed(0, 0, 1, false));
        Twins.no(due, "one is there, at the last", Twins::lively, x -> x.bed(3, 0, 1, false));
        due.yes("none is there", Twins.lively().bed(2, 0, 1, false));
    }

    private static void newBeds() {
        due.says("CLOG 0 to 100 hundredths, LEAVES 0 to 10, SALT 0 to 100 (all 0 at first), PLANTS (there at first)");
        RainStreets x = oneCorner();
        x.rain(3);
        x.storm();
        x.pass(30);
        x.bed(0, 0, 50, false);
        due.row("at first", w -> x.bedOf(0, w), 0, 50, 0, 30, 0, 0, 0, 1, 0, 0, 20, -1, -1, -1);
        due.says("a BOWL 1 to 500, a TREE or none, the DAY it was made");
        due.is("no tree", x.bedOf(0, 2), 0);
        due.is("the day", x.bedOf(0, 3), 30);
        due.is("made on the first day, a tree", Twins.lively().bedOf(0, 2) + Twins.lively().bedOf(0, 3), 1);
        due.says("what is in the BOWL (0 at first), DAYS it STANDS (0)");
        due.is("in the bowl", x.bedOf(0, 8), 0);
        due.is("in all bowls", x.sum(4), 0);
        due.is("stands", x.bedOf(0, 9), 0);
        due.yes("cared for on the day it's made", x.care(0, 0));
    }

    private static void drink() {
        due.says("DRINK of a BED: what its LOT drinks times (100 less CLOG) by 100, cut.");
        RainStreets x = oneBed();
        Due.ruled(x, "clog 1;");
        x.lot(0, 1);
        due.is("1 of clog 0", x.bedOf(0, 10), 1);
        x.pass(1);
        due.is("1 of clog 1: 99 hundredths, cut", x.bedOf(0, 10), 0);
        x.lot(0, 100);
        due.is("100 of clog 1: just 99", x.bedOf(0, 10), 99);
        x.lot(0, 99);
        due.is("99 of clog 1: 98.01", x.bedOf(0, 10), 98);
        Due.ruled(x, "clog 98;");
        x.pass(1);
        x.lot(0, 100);
        due.is("100 of clog 99: just 1", x.bedOf(0, 10), 1);
        x.lot(0, 99);
        due.is("99 of clog 99: 0.99", x.bedOf(0, 10), 0);
        x.pass(1);
        x.lot(0, 100);
        due.is("of clog 100", x.bedOf(0, 10), 0);
    }

    private static RainStreets parked(int parking) {
        RainStreets x = new RainStreets();
        x.corner(1, 1, 9, 0);
        x.corner(1, 1, 8, 0);
        x.corner(1, 1, parking, 0);
        x.corner(1, 1, 9, 0);
        x.bed(0, 0, 1, false);
        x.bed(1, 0, 1, false);
        return x;
    }

    private static void parkingOfBeds() {
        due.says("PARKING of all with BEDS would be above PARKING (TODAY).");
        due.yes("just 20", parked(3).bed(2, 0, 1, false));
        Twins.no(due, "21", () -> parked(4), x -> x.bed(2, 0, 1, false));
        Twins.Made tight = () -> {
            RainStreets x = Twins.lively();
            x.rules(0);
            Due.ruled(x, "parking 21;");
            Due.fed(x, "clog 3;");
            return x;
        };
        due.is("13 there", tight.made().count(4), 13);
        Twins.no(due, "22 of 21", tight, x -> x.bed(2, 0, 1, false));
        RainStreets x = parked(4);
        due.is("17 there", x.count(4), 17);
        Due.ruled(x, "parking 21;");
        due.yes("21 by today's rules", x.bed(2, 0, 1, false));
        due.is("21 there", x.count(4), 21);
        RainStreets z = new RainStreets();
        for (int parking : new int[] {9, 9, 9, 2, 0}) {
            z.corner(1, 1, parking, 0);
        }
        due.is("of no bed", z.count(4), 0);
        for (int corner : new int[] {1, 2, 3, 4}) {
            due.yes("those without a bed don't count", z.bed(corner, 0, 1, false));
        }
        due.is("just 20 of four", z.count(4), 20);
        RainStreets y = new RainStreets();
        y.corner(1, 1, 0, 0);
        y.corner(1, 1, 1, 0);
        Due.ruled(y, "parking 0;");
        due.yes("0 of 0", y.bed(0, 0, 1, false));
        due.no("1 of 0", y.bed(1, 0, 1, false));
    }

    private static void careNumbers() {
        due.says("CARED for (by whom 0 to 10): true. False, doing nothing: not as told, no BED, they did TODAY.");
        Twins.span(due, "by", 0, 10, () -> aged(oneBed()), 1, 0, (x, n) -> x.care(0, n) ? 1 : 0);
        due.says("CARED for by a NEIGHBOUR (0 to 9) or the crew (10): CLOG goes down by 30");
        RainStreets x = aged(oneBed());
        int[] clogs = {32, 2, 0};
        for (int by = 8; by <= 10; by++) {
            due.yes("cared for by " + by, x.care(0, by));
            due.is("clog behind " + by, x.bedOf(0, 4), clogs[by - 8]);
        }
    }

    private static RainStreets aged(RainStreets x) {
        Due.ruled(x, "clog 31; leaves 0 to 364;");
        x.pass(2);
        return x;
    }

    private static void careRefused() {
        due.says("False, doing nothing: not as told, no BED, they did TODAY.");
        Twins.no(due, "corner -1", Twins::lively, x -> x.care(-1, 0));
        Twins.no(due, "corner 4 of 4", Twins::lively, x -> x.care(4, 0));
        Twins.no(due, "no bed", Twins::lively, x -> x.care(2, 0));
        for (int by = 0; by <= 10; by++) {
            int one = by;
            Twins.Made made = () -> {
                RainStreets x = aged(oneBed());
                x.care(0, one);
                return x;
            };
            Twins.no(due, "again by " + by, made, x -> x.care(0, one));
            due.yes("by another", made.made().care(0, (by + 1) % 11));
        }
        RainStreets x = oneBed();
        x.corner(1, 1, 0, 0);
        x.bed(1, 0, 1, false);
        due.yes("on day 0", x.care(0, 0));
        due.yes("another bed by the same one", x.care(1, 0));
        x.pass(1);
        due.yes("on day 1", x.care(0, 0));
        due.no("twice on day 1", x.care(0, 0));
        Due.passed(x, 3648);
        due.yes("on the last day", x.care(0, 0));
        due.no("twice on the last day", x.care(0, 0));
    }

    private static void cared() {
        due.says("CLOG goes down by 30 (0 at least), LEAVES are 0; by the same one once a DAY.");
        int[][] clogs = {{0, 0}, {1, 0}, {29, 0}, {30, 0}, {31, 1}, {99, 69}, {100, 70}};
        for (int[] clog : clogs) {
            RainStreets x = oneBed();
            Due.ruled(x, "leaves 0 to 364; clog " + clog[0] + ";");
            x.pass(1);
            due.is("clog ahead", x.bedOf(0, 4), clog[0]);
            due.is("leaves ahead", x.bedOf(0, 5), 1);
            x.care(0, 5);
            due.is("clog of " + clog[0] + " behind", x.bedOf(0, 4), clog[1]);
            due.is("leaves behind", x.bedOf(0, 5), 0);
        }
        RainStreets x = oneBed();
        Due.ruled(x, "leaves 0 to 364;");
        x.pass(30);
        due.is("full of leaves", x.bedOf(0, 5), 10);
        x.care(0, 10);
        due.is("no leaves", x.bedOf(0, 5), 0);
    }

    private static RainStreets dead() {
        RainStreets x = oneBed();
        Due.ruled(x, "salt 0;");
        x.treat(0, 0);
        x.pass(61);
        return x;
    }

    private static void treatNumbers() {
        due.says("SALTED (what 0), PLANTED anew (1): true.");
        Twins.span(due, "what", 0, 1, EdgesOfPlacesTest::dead, 1, 0, (x, n) -> x.treat(0, n) ? 1 : 0);
    }

    private static void treatRefused() {
        due.says("False, doing nothing: not as told, no BED, PLANTS are there (1).");
        Twins.no(due, "corner -1", Twins::lively, x -> x.treat(-1, 0));
        Twins.no(due, "corner 4 of 4", Twins::lively, x -> x.treat(4, 0));
        Twins.no(due, "no bed", Twins::lively, x -> x.treat(2, 0));
        Twins.no(due, "no bed to plant", Twins::lively, x -> x.treat(2, 1));
        Twins.no(due, "plants are there", Twins::lively, x -> x.treat(0, 1));
        Twins.no(due, "what 2 where plants are there", Twins::lively, x -> x.treat(0, 2));
        Twins.no(due, "what -1 where plants are there", Twins::lively, x -> x.treat(0, -1));
        RainStreets x = dead();
        due.is("none there", x.bedOf(0, 7), 0);
        due.is("a bed without", x.count(11), 1);
        due.yes("salted without plants", x.treat(0, 0));
        due.yes("planted", x.treat(0, 1));
        due.is("there", x.bedOf(0, 7), 1);
        due.is("the salt stays", x.bedOf(0, 6), 10);
        due.is("no bed without", x.count(11), 0);
        due.no("planted twice", x.treat(0, 1));
        due.yes("salted with plants", x.treat(0, 0));
    }

    private static void salted() {
        due.says("SALTED: SALT goes up by 10, 100 at most. PLANTED anew: PLANTS are there.");
        RainStreets x = oneBed();
        for (int salt = 10; salt <= 100; salt += 10) {
            due.yes("salted", x.treat(0, 0));
            due.is("salt", x.bedOf(0, 6), salt);
        }
        due.yes("salted at 100", x.treat(0, 0));
        due.is("100 at most", x.bedOf(0, 6), 100);
    }

    private static void told() {
        due.says("Of a corner: 0 AREA, 1 PIPE, 2 PARKING, 3 CELLAR, 4 below (NONE), 5 a BED (1)");
        Twins.asked(due, "told", 8, Twins::lively, (x, n) -> x.told(1, n));
        due.none("what 9 of one below the works", Twins.lively().told(3, 9));
        Twins.none(due, "corner -1", Twins::lively, x -> x.told(-1, 0));
        Twins.none(due, "corner 4 of 4", Twins::lively, x -> x.told(4, 0));
        Twins.none(due, "corner 12 of 12", Twins::full, x -> x.told(12, 0));
        due.is("corner 11 of 12", Twins.full().told(11, 0), 21);
        due.is("no bed", Twins.lively().told(2, 5), 0);
        due.is("a bed", Twins.lively().told(3, 5), 1);
        due.says("6 SPILT there in the latest storm, 7 the most in its PIPE in a minute of it, 8 WET minutes of it. NONE: none such.");
        RainStreets x = oneCorner();
        due.row("no storm", w -> x.told(0, w), 10, 20, 5, 0, -1, 0, 0, 0, 0);
        x.rain(2);
        x.storm();
        due.row("just what it carries", w -> x.told(0, w), 10, 20, 5, 0, -1, 0, 0, 20, 0);
        x.rain(3);
        x.rain(1);
        x.storm();
        due.row("the most of three minutes", w -> x.told(0, w), 10, 20, 5, 0, -1, 0, 10, 20, 0);
        x.clear();
        x.storm();
        due.row("a storm of no minutes", w -> x.told(0, w), 10, 20, 5, 0, -1, 0, 0, 0, 0);
    }

    private static void bedOf() {
        due.says("10 DRINK, 11 latest LOOK (NONE), 12 DRINK by it from, 13 to (NONE). NONE: none such.");
        Twins.asked(due, "bedOf", 13, Twins::lively, (x, n) -> x.bedOf(0, n));
        Twins.none(due, "no look", Twins::lively, x -> x.bedOf(3, 11));
        Twins.none(due, "no from", Twins::lively, x -> x.bedOf(3, 12));
        Twins.none(due, "no to", Twins::lively, x -> x.bedOf(3, 13));
        Twins.none(due, "no bed", Twins::lively, x -> x.bedOf(2, 0));
        Twins.none(due, "corner -1", Twins::lively, x -> x.bedOf(-1, 0));
        Twins.none(due, "corner 4 of 4", Twins::lively, x -> x.bedOf(4, 0));
        due.is("no tree", Twins.lively().bedOf(1, 2), 0);
        due.is("a tree", Twins.lively().bedOf(0, 2), 1);
    }

    private static void roofOf() {
        due.says("Of a ROOF: 0 corner, 1 OWNER, 2 AREA, 3 BARREL, 4 what it has, 5 the YEAR it was PROVED last (NONE). NONE: none such.");
        Twins.asked(due, "roofOf", 5, Twins::lively, (x, n) -> x.roofOf(0, n));
        Twins.none(due, "never proved", Twins::lively, x -> x.roofOf(2, 5));
        Twins.none(due, "roof -1", Twins::lively, x -> x.roofOf(-1, 0));
        Twins.none(due, "roof 3 of 3", Twins::lively, x -> x.roofOf(3, 0));
        Twins.none(due, "roof 30 of 30", Twins::full, x -> x.roofOf(30, 0));
        due.is("roof 29 of 30", Twins.full().roofOf(29, 2), 30);
    }

    private static void prove() {
        due.says("A BARREL is PROVED in TODAY's YEAR: true; false: no such ROOF, no BARREL (0).");
        Twins.no(due, "roof -1", Twins::lively, x -> x.prove(-1));
        Twins.no(due, "roof 3 of 3", Twins::lively, x -> x.prove(3));
        Twins.no(due, "the greatest", Twins::lively, x -> x.prove(Integer.MAX_VALUE));
        Twins.no(due, "a barrel of 0", Twins::lively, x -> x.prove(1));
        due.yes("the last roof", Twins.lively().prove(2));
        due.yes("proved already", Twins.lively().prove(0));
        RainStreets x = oneCorner();
        x.roof(0, 1, 1, 1);
        due.yes("a barrel of 1", x.prove(0));
        due.is("of year 0", x.roofOf(0, 5), 0);
    }

    private static void years() {
        due.says("the YEAR of a DAY is it by 365, cut; the DAY of the year the rest.");
        int[][] years = {{0, 0}, {364, 0}, {365, 1}, {729, 1}, {730, 2}, {3284, 8}, {3285, 9}, {3649, 9}};
        for (int[] year : years) {
            RainStreets x = oneCorner();
            x.roof(0, 1, 1, 1);
            Due.passed(x, year[0]);
            due.is("today", x.count(0), year[0]);
            due.yes("proved", x.prove(0));
            due.is("the year of day " + year[0], x.roofOf(0, 5), year[1]);
        }
    }
}
