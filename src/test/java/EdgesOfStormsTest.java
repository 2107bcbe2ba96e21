/** The sentences on rain, storms, tries and storms compared that name a bound, each by its name: promises 10 to 15, 20, 21. */
public final class EdgesOfStormsTest {
    private static final Due due = new Due();

    public static void main(String[] args) {
        rainNumbers();
        thirtyMinutes();
        cleared();
        fortyStorms();
        emptyStorms();
        barrelRoom();
        bowlsAtFirst();
        mayGoIn();
        bowlRoom();
        drinkAsFarAsItHas();
        pipeCarries();
        pipesFromAbove();
        streetFromAbove();
        cellarWet();
        mostToWorks();
        greatest();
        stormAsked();
        triedNumbers();
        triedSets();
        triedChangesNothing();
        bestNumbers();
        bestCount();
        bestCost();
        bestParking();
        bestWeight();
        bestOfSeveral();
        helpsNumbers();
        helpsBounds();
        compareNumbers();
        compareDay();
        compareDoubt();
        compareNearest();
        fell();
        due.end();
    }

    private static RainStreets oneCorner() {
        RainStreets x = new RainStreets();
        x.corner(10, 20, 5, 0);
        return x;
    }

    private static void rains(RainStreets x, int... minutes) {
        x.clear();
        for (int much : minutes) {
            x.rain(much);
        }
    }

    private static void rainNumbers() {
        due.says("A minute more of the storm: how many. NONE, doing nothing: not as told, 30 are there.");
        Twins.span(due, "rain", 0, 50, Twins::lively, 4, -1, (x, n) -> x.rain(n));
        RainStreets x = oneCorner();
        x.rain(0);
        x.storm();
        due.is("a minute of 0", x.stormOf(0, 1), 0);
        x.rain(50);
        x.storm();
        due.is("a minute of 50", x.stormOf(1, 1), 500);
    }

    private static void thirtyMinutes() {
        due.says("A STORM: up to 30 minutes of rain 0 to 50 each.");
        RainStreets x = oneCorner();
        due.is("none", x.count(5), 0);
        for (int minute = 1; minute <= 30; minute++) {
            due.is("a minute", x.rain(minute == 30 ? 7 : 1), minute);
            due.is("minutes", x.count(5), minute);
        }
        due.none("a 31st", x.rain(1));
        due.none("a 31st of 0", x.rain(0));
        due.is("still", x.count(5), 30);
        x.storm();
        due.is("all thirty, to the last", x.stormOf(0, 1), 360);
        Twins.none(due, "a 31st", Twins::full, y -> y.rain(1));
    }

    private static void cleared() {
        due.says("The storm's minutes are gone: how many there were.");
        due.is("none of none", new RainStreets().clear(), 0);
        Twins.refused(due, "none of none", Twins::empty, 0, x -> x.clear());
        RainStreets x = Twins.full();
        due.is("thirty", x.clear(), 30);
        due.is("gone", x.count(5), 0);
        due.is("none left", x.clear(), 0);
        for (int minute = 1; minute <= 30; minute++) {
            due.is("thirty anew", x.rain(50), minute);
        }
        due.none("a 31st", x.rain(50));
        RainStreets y = oneCorner();
        y.roof(0, 0, 3, 0);
        y.roof(0, 0, 2, 100);
        rains(y, 1, 7, 8);
        due.is("three", y.clear(), 3);
        y.rain(1);
        y.storm();
        due.row("what is gone doesn't come", w -> y.stormOf(0, w), 0, 15, 0, 0, 13);
        due.is("nor into a barrel", y.roofOf(1, 4), 2);
    }

    private static void fortyStorms() {
        due.says("TOLD storms, up to 40");
        RainStreets x = oneCorner();
        for (int storm = 0; storm < 40; storm++) {
            rains(x, storm);
            due.is("a storm", x.storm(), storm);
            due.is("how many", x.count(6), storm + 1);
        }
        due.is("the first", x.stormOf(0, 1), 0);
        due.is("the last", x.stormOf(39, 1), 390);
        due.none("a 41st", x.storm());
        due.none("none of it", x.stormOf(40, 0));
        due.says("The storm comes: its number among those TOLD. NONE, doing nothing: 40 are told.");
        Twins.none(due, "a 41st", Twins::full, y -> y.storm());
        RainStreets y = Twins.full();
        due.yes("water in a bowl", y.bedOf(0, 8) > 0);
        long drunk = y.sum(1);
        long bowls = y.sum(4);
        due.none("a 41st", y.storm());
        due.is("nothing is drunk", y.sum(1), drunk);
        due.is("the bowls keep what they have", y.sum(4), bowls);
    }

    private static void emptyStorms() {
        due.says("The storm comes: its number among those TOLD.");
        RainStreets x = oneCorner();
        due.is("no minutes", x.storm(), 0);
        due.row("told", w -> x.stormOf(0, w), 0, 0, 0, 0, 0);
        rains(x, 0, 0, 0);
        due.is("no rain", x.storm(), 1);
        due.row("told", w -> x.stormOf(1, w), 0, 0, 0, 0, 0);
        due.row("nothing in the pipe", w -> x.told(0, w), 10, 20, 5, 0, -1, 0, 0, 0, 0);
        RainStreets y = new RainStreets();
        y.rain(50);
        due.is("no corners", y.storm(), 0);
        due.row("told", w -> y.stormOf(0, w), 0, 0, 0, 0, 0);
    }

    private static void barrelRoom() {
        due.says("(a) of each ROOF there, by numbers: rain times AREA; the BARREL takes as far as there is room; the rest comes to the corner.");
        int[][] barrels = {{0, 0}, {1, 1}, {11, 11}, {12, 12}, {13, 13}, {23, 23}, {24, 24}, {25, 24}, {200, 24}};
        for (int[] barrel : barrels) {
            RainStreets x = new RainStreets();
            x.corner(1, 500, 0, 0);
            x.roof(0, 0, 6, barrel[0]);
            rains(x, 2, 2);
            x.storm();
            due.is("in a barrel of " + barrel[0], x.roofOf(0, 4), barrel[1]);
            due.is("the rest to the works", x.sum(3), 4 + 24 - barrel[1]);
            due.is("rained", x.sum(0), 28);
            x.storm();
            due.is("twice", x.roofOf(0, 4), Math.min(barrel[0], 48));
            due.is("the rest of twice", x.sum(3), 8 + 48 - Math.min(barrel[0], 48));
        }
        RainStreets x = new RainStreets();
        x.corner(1, 500, 0, 0);
        x.corner(1, 500, 0, 0);
        x.roof(1, 0, 10, 0);
        rains(x, 1);
        x.storm();
        due.is("to its own corner", x.told(0, 7), 1);
        due.is("to its own corner", x.told(1, 7), 11);
    }

    private static void bowlsAtFirst() {
        due.says("As it begins what BOWLS have is DRUNK, they're empty.");
        RainStreets x = new RainStreets();
        x.corner(100, 500, 0, 0);
        x.lot(0, 1);
        x.bed(0, 0, 100, false);
        rains(x, 1);
        x.storm();
        due.is("99 there", x.bedOf(0, 8), 99);
        due.is("1 drunk", x.sum(1), 1);
        x.storm();
        due.is("100 had room again", x.bedOf(0, 8), 99);
        due.is("99 and 1 more drunk", x.sum(1), 101);
        due.is("nothing went by", x.sum(3), 0);
        rains(x);
        x.storm();
        due.is("empty behind a storm of no minutes", x.bedOf(0, 8), 0);
        due.is("all drunk", x.sum(1), 200);
        x.storm();
        due.is("none of an empty one", x.sum(1), 200);
        due.is("in bowls", x.sum(4), 0);
    }

    private static void mayGoIn() {
        due.says("COMES times (10 less LEAVES) by 10 (cut) may go in");
        for (int leaves = 0; leaves <= 10; leaves++) {
            for (int comes = 0; comes <= 11; comes++) {
                RainStreets x = new RainStreets();
                x.corner(1, 500, 0, 0);
                Due.ruled(x, "leaves 0 to 364; clog 0;");
                x.bed(0, 0, 500, false);
                for (int day = 0; day < leaves; day++) {
                    x.pass(1);
                }
                due.is("leaves", x.bedOf(0, 5), leaves);
                rains(x, comes);
                x.storm();
                due.is(comes + " of " + leaves + " leaves", x.sum(1), comes * (10 - leaves) / 10);
                due.is("the rest to the works", x.sum(3), comes - comes * (10 - leaves) / 10);
            }
        }
    }

    private static void bowlRoom() {
        due.says("the BOWL takes as far as there is room; then DRINK of it is DRUNK, as far as it has.");
        int[][] bowls = {{1, 0, 19}, {19, 18, 1}, {20, 19, 0}, {21, 19, 0}, {500, 19, 0}};
        for (int[] bowl : bowls) {
            RainStreets x = new RainStreets();
            x.corner(20, 500, 0, 0);
            x.lot(0, 1);
            x.bed(0, 0, bowl[0], false);
            rains(x, 1);
            x.storm();
            due.is("in a bowl of " + bowl[0], x.bedOf(0, 8), bowl[1]);
            due.is("by a bowl of " + bowl[0], x.sum(3), bowl[2]);
            due.is("drunk", x.sum(1), 1);
        }
        RainStreets x = new RainStreets();
        x.corner(20, 500, 0, 0);
        x.lot(0, 1);
        x.bed(0, 0, 20, false);
        rains(x, 1, 1);
        x.storm();
        due.is("in the second minute just what was drunk has room", x.sum(3), 19);
        due.is("in the bowl", x.bedOf(0, 8), 19);
    }

    private static void drinkAsFarAsItHas() {
        due.says("then DRINK of it is DRUNK, as far as it has.");
        int[][] drinks = {{6, 4, 10}, {7, 3, 14}, {9, 1, 18}, {10, 0, 20}, {11, 0, 20}, {100, 0, 20}};
        for (int[] drink : drinks) {
            RainStreets x = new RainStreets();
            x.corner(10, 500, 0, 0);
            x.lot(0, drink[0]);
            x.bed(0, 0, 500, false);
            rains(x, 1);
            x.storm();
            due.is("left of 10 where it drinks " + drink[0], x.bedOf(0, 8), drink[1]);
            due.is("drunk", x.sum(1), 10 - drink[1]);
        }
        RainStreets x = new RainStreets();
        x.corner(10, 500, 0, 0);
        x.bed(0, 0, 500, false);
        Due.ruled(x, "clog 9999;");
        x.pass(1);
        rains(x, 2, 0);
        x.storm();
        due.is("clogged it drinks nothing", x.sum(1), 0);
        due.is("it takes still", x.bedOf(0, 8), 20);
    }

    private static void pipeCarries() {
        due.says("as far as it carries; of what is beyond half (cut) runs on over the street to the corner below (none to the works), the rest SPILLS to the river.");
        int[][] pipes = {{20, 0, 0, 20}, {19, 0, 1, 19}, {18, 1, 1, 18}, {17, 1, 2, 17}, {16, 2, 2, 16}, {21, 0, 0, 20}, {1, 9, 10, 1}};
        for (int[] pipe : pipes) {
            RainStreets x = new RainStreets();
            x.corner(20, pipe[0], 0, 0);
            x.corner(1, 500, 0, 0);
            x.below(0, 1);
            rains(x, 1);
            x.storm();
            due.is("spills at a pipe of " + pipe[0], x.told(0, 6), pipe[2]);
            due.is("carried", x.told(0, 7), pipe[3]);
            due.is("below", x.told(1, 7), 1 + pipe[1] + pipe[3]);
            x.below(0, -1);
            x.storm();
            due.is("to the works none runs on", x.told(0, 6), pipe[1] + pipe[2]);
            due.is("carried", x.told(0, 7), pipe[3]);
            due.is("no more below", x.told(1, 7), 1);
        }
    }

    private static void pipesFromAbove() {
        due.says("(c) what wasn't taken goes into the PIPE with what came in PIPES from above: as far as it carries");
        RainStreets x = new RainStreets();
        x.corner(10, 10, 0, 0);
        x.corner(10, 10, 0, 0);
        x.corner(1, 21, 0, 0);
        x.below(0, 2);
        x.below(1, 2);
        rains(x, 1);
        x.storm();
        due.is("just what it carries", x.told(2, 6), 0);
        due.is("21", x.told(2, 7), 21);
        RainStreets y = new RainStreets();
        y.corner(10, 10, 0, 0);
        y.corner(10, 10, 0, 0);
        y.corner(1, 20, 0, 0);
        y.below(0, 2);
        y.below(1, 2);
        y.bed(2, 0, 500, false);
        rains(y, 1);
        y.storm();
        due.is("a bed takes nothing of pipes", y.sum(1), 1);
        due.is("pipes from above alone", y.told(2, 7), 20);
        RainStreets z = new RainStreets();
        z.corner(10, 10, 0, 0);
        z.corner(2, 11, 0, 0);
        z.below(0, 1);
        rains(z, 1);
        z.storm();
        due.is("1 beyond what it carries", z.told(1, 6), 1);
        due.is("11", z.told(1, 7), 11);
    }

    private static void streetFromAbove() {
        due.says("(b) COMES: that, rain times the corner's AREA, and what runs on over the street from above.");
        RainStreets x = new RainStreets();
        x.corner(20, 1, 0, 0);
        x.corner(1, 500, 0, 0);
        x.below(0, 1);
        x.bed(1, 0, 500, false);
        rains(x, 1, 0);
        x.storm();
        due.is("9 run on and go in with 1", x.sum(1), 10);
        due.is("10 spill", x.sum(2), 10);
        due.is("the pipe's 1 goes by", x.sum(3), 1);
        due.is("none of the first minute comes in the second", x.told(1, 7), 1);
    }

    private static void cellarWet() {
        due.says("(d) a CELLAR is WET in a minute in which more than it runs on or SPILLS there (both together).");
        int[][] cellars = {{0, 0}, {1, 1}, {8, 1}, {9, 1}, {10, 0}, {11, 0}, {500, 0}};
        for (int[] cellar : cellars) {
            RainStreets x = new RainStreets();
            x.corner(11, 1, 0, cellar[0]);
            x.corner(1, 500, 0, 0);
            rains(x, 1);
            x.storm();
            due.is("10 spill, a cellar of " + cellar[0], x.told(0, 8), cellar[1]);
            x.below(0, 1);
            x.storm();
            due.is("5 run on, 5 spill, a cellar of " + cellar[0], x.told(0, 8), cellar[1]);
            due.is("of all cellars", x.stormOf(1, 3), cellar[1]);
        }
        RainStreets x = new RainStreets();
        x.corner(1, 1, 0, 1);
        x.corner(1, 1, 0, 2);
        rains(x, 0, 1, 2, 3, 4, 5);
        x.storm();
        due.is("minutes of 2, 3 and 4 beyond a cellar of 1", x.told(0, 8), 3);
        due.is("minutes of 3 and 4 beyond a cellar of 2", x.told(1, 8), 2);
        due.is("of all", x.stormOf(0, 3), 5);
    }

    private static void mostToWorks() {
        due.says("the most that came to the works in a minute.");
        RainStreets x = new RainStreets();
        x.corner(1, 5, 0, 0);
        x.corner(2, 5, 0, 0);
        x.corner(1, 500, 0, 0);
        x.below(0, 2);
        rains(x, 1, 2, 3, 1);
        x.storm();
        due.is("5 of the second and 6 of the third", x.stormOf(0, 4), 11);
        due.is("all", x.sum(3), 4 + 8 + 11 + 4);
        due.is("a lesser minute leaves it", x.told(1, 7), 5);
        rains(x, 1, 0);
        x.tried(4, 0);
        x.storm();
        due.is("of a lesser storm", x.stormOf(1, 4), 4);
        rains(x, 0);
        x.storm();
        due.is("of none", x.stormOf(2, 4), 0);
        due.is("all of both", x.sum(3), 27 + 4);
    }

    private static void greatest() {
        due.says("A STORM: up to 30 minutes of rain 0 to 50 each.");
        RainStreets x = new RainStreets();
        for (int corner = 0; corner < 12; corner++) {
            x.corner(100, 1, 0, 500);
        }
        for (int roof = 0; roof < 30; roof++) {
            x.roof(11, 19, 50, 200);
        }
        for (int minute = 0; minute < 30; minute++) {
            x.rain(50);
        }
        for (int storm = 0; storm < 40; storm++) {
            x.storm();
        }
        due.is("rained of one", x.stormOf(39, 1), 4050000);
        due.is("spilt of one", x.stormOf(39, 2), 4050000 - 360);
        due.is("wet minutes of one", x.stormOf(39, 3), 360);
        due.is("to the works", x.stormOf(39, 4), 12);
        due.is("spilt at a corner", x.told(11, 6), 30 * (5000 + 75000 - 1));
        due.is("rained of all", x.sum(0), 162000000);
        due.is("all of it is somewhere", x.sum(0), x.sum(2) + x.sum(3) + x.sum(6));
        due.is("the first filled the barrels", x.sum(6), 6000);
        due.is("weighed", x.best(0, 0, 10000, 0), 4050000 - 360 + 3600000);
    }

    private static void stormAsked() {
        due.says("Of a TOLD storm: 0 DAY, 1 what rained, 2 SPILT, 3 WET minutes, 4 the most that came to the works in a minute. NONE: none such.");
        Twins.Taker what = (x, n) -> (int) x.stormOf(1, n);
        Twins.asked(due, "what", 4, Twins::lively, what);
        for (int storm : new int[] {-1, 2, 40, Integer.MIN_VALUE, Integer.MAX_VALUE}) {
            Twins.none(due, "storm " + storm, Twins::lively, x -> x.stormOf(storm, 0));
        }
        Twins.none(due, "storm 40 of 40", Twins::full, x -> x.stormOf(40, 0));
        due.is("storm 39 of 40", Twins.full().stormOf(39, 0), 1);
        due.is("storm 1 of 2", Twins.lively().stormOf(1, 0), 2);
    }

    private static void triedNumbers() {
        due.says("TRIED with a set of corners: SPILLS (what 0), WET minutes (1). NONE: none such (some have a BED, too).");
        Twins.asked(due, "what", 1, Twins::lively, (x, n) -> (int) x.tried(4, n));
        due.is("no minutes", oneCorner().tried(1, 0), 0);
    }

    private static void triedSets() {
        due.says("NONE: none such (some have a BED, too).");
        for (int set : new int[] {16, 20, 31, 32, 1 << 12, 1 << 30, -1, -4, Integer.MIN_VALUE, Integer.MIN_VALUE | 4, Integer.MAX_VALUE}) {
            Twins.none(due, "set " + set, Twins::lively, x -> x.tried(set, 0));
        }
        for (int set : new int[] {1, 2, 3, 5, 6, 7, 8, 12, 15}) {
            Twins.none(due, "a bed is there, set " + set, Twins::lively, x -> x.tried(set, 1));
        }
        RainStreets x = new RainStreets();
        for (int corner = 0; corner < 12; corner++) {
            x.corner(20, 1, 9, 0);
            rains(x, 1);
            due.is("the empty set", x.tried(0, 0), 19L * (corner + 1));
            due.is("the last corner", x.tried(1 << corner, 0), 19L * corner);
            due.is("all", x.tried((2 << corner) - 1, 0), 0);
            due.none("one that isn't there", x.tried(2 << corner, 0));
            due.none("all and one that isn't there", x.tried((4 << corner) - 1, 0));
        }
        due.none("-1", x.tried(-1, 0));
        due.none("the highest bit", x.tried(Integer.MIN_VALUE, 0));
    }

    private static void triedChangesNothing() {
        due.says("TRIED: the storm as if it came now, with new BEDS (LOT 0, BOWL 100, no TREE) at a set of corners: SPILLS and WET minutes; nothing changes.");
        Twins.Made made = Twins::lively;
        long spills = made.made().tried(4, 0);
        Twins.refused(due, "tried with 2", made, spills, x -> x.tried(4, 0));
        long wet = made.made().tried(0, 1);
        Twins.refused(due, "tried with none", made, wet, x -> x.tried(0, 1));
        Twins.refused(due, "best", made, 4, x -> x.best(4, 99999, 1, 1));
        Twins.refused(due, "helps", made, made.made().helps(2, 2), x -> x.helps(2, 2));
        Twins.refused(due, "crew", made, made.made().crew(60, 0), x -> x.crew(60, 0));
        due.is("as if it came now", made.made().tried(0, 0), came(made.made()));
        tryOn(19, 0, 0);
        tryOn(20, 0, 0);
        tryOn(21, 4, 1);
    }

    /** A new bed at a corner of an area, with 5 and 1 of rain: its bowl of 100 and the 19 that lot 0 drinks are all it takes. */
    private static void tryOn(int area, int first, int second) {
        due.says("with new BEDS (LOT 0, BOWL 100, no TREE) at a set of corners");
        RainStreets x = new RainStreets();
        x.corner(area, 1, 0, 0);
        x.lot(0, 19);
        x.lot(1, 100);
        rains(x, 5);
        due.is("spills in the first minute, area " + area, x.tried(1, 0), first);
        rains(x, 5, 1);
        due.is("spills in both, area " + area, x.tried(1, 0), first + second);
    }

    private static long came(RainStreets x) {
        x.storm();
        return x.stormOf(2, 2);
    }

    private static void bestNumbers() {
        due.says("BEST: its weighed sum (what 0), the set (1), its COST (2), SPILLS (3), WET minutes (4). NONE: not as told (k 0 to 4, coins 0 to 99,999, w 0 to 10,000).");
        Twins.span(due, "k", 0, 4, EdgesOfStormsTest::oneCorner, 0, -1, (x, n) -> (int) x.best(n, 9, 9, 0));
        Twins.span(due, "coins", 0, 99999, EdgesOfStormsTest::oneCorner, 0, -1, (x, n) -> (int) x.best(1, n, 9, 0));
        Twins.span(due, "w", 0, 10000, EdgesOfStormsTest::oneCorner, 0, -1, (x, n) -> (int) x.best(1, 9, n, 0));
        Twins.asked(due, "what", 4, Twins::lively, (x, n) -> (int) x.best(1, 9, 9, n));
        due.says("BEST of coins c for k new BEDS at most");
        due.row("of nothing", w -> new RainStreets().best(0, 0, 0, w), 0, 0, 0, 0, 0);
    }

    /** Corners of which each bed spares 19. */
    private static RainStreets spilling(int corners, int parking) {
        RainStreets x = new RainStreets();
        for (int corner = 0; corner < corners; corner++) {
            x.corner(20, 1, parking, 10);
        }
        rains(x, 1);
        return x;
    }

    private static void bestCount() {
        due.says("BEST of coins c for k new BEDS at most: of all sets of corners without a BED");
        int[] sets = {0, 1, 3, 7, 15};
        for (int k = 0; k <= 4; k++) {
            int many = k;
            RainStreets x = spilling(5, 0);
            due.row("k " + k, w -> x.best(many, 99999, 2, w), 21L * (5 - k), sets[k], 150L * k, 19L * (5 - k), 5 - k);
            RainStreets y = spilling(12, 0);
            due.is("of twelve, k " + k, y.best(k, 99999, 2, 1), sets[k]);
            y.bed(0, 0, 100, false);
            due.is("the first has one", y.best(k, 99999, 2, 1), 2L * sets[k]);
        }
        RainStreets x = spilling(3, 0);
        for (int corner = 0; corner < 3; corner++) {
            due.is("as many as there are", x.best(4, 99999, 0, 1), 7 >> corner << corner);
            x.bed(corner, 0, 100, false);
        }
        due.row("all have one: the empty set", w -> x.best(4, 99999, 9, w), 0, 0, 0, 0, 0);
        RainStreets last = new RainStreets();
        for (int corner = 0; corner < 12; corner++) {
            last.corner(corner < 8 ? 1 : 20, 1, 0, 0);
        }
        rains(last, 1);
        due.is("the last four of twelve", last.best(4, 99999, 0, 1), 15 << 8);
    }

    private static void bestCost() {
        due.says("whose COST (COST each, and BOWL for each of its BOWL: 100) isn't above c");
        int[][] coins = {{0, 0}, {149, 0}, {150, 1}, {151, 1}, {299, 1}, {300, 2}, {449, 2}, {450, 3}, {599, 3}, {600, 4}, {99999, 4}};
        for (int[] coin : coins) {
            RainStreets x = spilling(5, 0);
            due.is("cost of " + coin[0], x.best(4, coin[0], 0, 2), 150L * coin[1]);
            due.is("set of " + coin[0], x.best(4, coin[0], 0, 1), (1 << coin[1]) - 1);
        }
        RainStreets x = spilling(5, 0);
        Due.ruled(x, "cost 0 bowl 0;");
        due.row("they cost nothing", w -> x.best(4, 0, 0, w), 19, 15, 0, 19, 1);
        Due.ruled(x, "cost 9999 bowl 9999;");
        due.is("they cost too much", x.best(4, 99999, 0, 1), 0);
        Due.ruled(x, "cost 99 bowl 999;");
        due.is("just what there is", x.best(4, 99999, 0, 2), 99999);
        Due.ruled(x, "cost 100 bowl 999;");
        due.is("one more", x.best(4, 99999, 0, 2), 0);
    }

    private static void bestParking() {
        due.says("whose PARKING (with that of corners with BEDS) isn't above PARKING that with the least weight");
        int[][] parkings = {{0, 0}, {4, 0}, {5, 1}, {9, 1}, {10, 3}, {14, 3}, {15, 7}, {19, 7}, {20, 15}, {9999, 15}};
        for (int[] parking : parkings) {
            RainStreets x = spilling(4, 5);
            Due.ruled(x, "parking " + parking[0] + ";");
            due.is("parking of " + parking[0], x.best(4, 99999, 0, 1), parking[1]);
        }
        int[][] withBed = {{5, 0}, {9, 0}, {10, 2}, {14, 2}, {15, 6}};
        for (int[] parking : withBed) {
            RainStreets x = spilling(4, 5);
            x.bed(0, 0, 100, false);
            Due.ruled(x, "parking " + parking[0] + ";");
            due.is("with a bed, of " + parking[0], x.best(4, 99999, 0, 1), parking[1]);
        }
        RainStreets x = spilling(4, 5);
        x.bed(0, 0, 100, false);
        Due.ruled(x, "parking 4;");
        for (int what = 0; what <= 4; what++) {
            due.none("the bed that is there takes more than there is: no set", x.best(4, 99999, 0, what));
        }
        Twins.Made tight = () -> ruled(Twins.lively(), "parking 12;");
        Twins.none(due, "no set", tight, y -> y.best(4, 99999, 0, 1));
        due.is("bare: 20 of 20", spilling(5, 5).best(4, 99999, 0, 1), 15);
        due.is("bare: 21 of 20", spilling(3, 7).best(4, 99999, 0, 1), 3);
    }

    /** The object under other rules, with bytes on its tape. */
    private static RainStreets ruled(RainStreets x, String rules) {
        x.rules(0);
        Due.ruled(x, rules);
        Due.fed(x, "clog 3;");
        return x;
    }

    private static void bestWeight() {
        due.says("that with the least weight w times WET minutes and SPILLS");
        // A bed at 0 spares 19 and one wet minute, a bed at 1 spares 29 and none.
        RainStreets x = new RainStreets();
        x.corner(20, 1, 0, 18);
        x.corner(30, 1, 0, 0);
        rains(x, 1);
        due.row("w 0", w -> x.best(1, 99999, 0, w), 19, 2, 150, 19, 1);
        due.row("w 9", w -> x.best(1, 99999, 9, w), 28, 2, 150, 19, 1);
        due.row("w 10: as much, so the least", w -> x.best(1, 99999, 10, w), 29, 1, 150, 29, 0);
        due.row("w 11", w -> x.best(1, 99999, 11, w), 29, 1, 150, 29, 0);
        due.row("w 10000", w -> x.best(0, 99999, 10000, w), 10048, 0, 0, 48, 1);
    }

    private static void bestOfSeveral() {
        due.says("of several the fewest corners, of these the least as a number (bits).");
        due.is("no rain: none", oneCorner().best(4, 99999, 10000, 1), 0);
        RainStreets y = new RainStreets();
        y.corner(20, 30, 0, 0);
        y.corner(15, 5, 5, 0);
        y.corner(15, 5, 5, 0);
        y.corner(25, 5, 9, 0);
        Due.ruled(y, "parking 10;");
        rains(y, 1);
        due.is("1 and 2 spare 20", y.tried(6, 0), 20);
        due.is("3 spares 20", y.tried(8, 0), 20);
        due.is("the fewest, though not the least", y.best(2, 99999, 0, 1), 8);
        due.is("without corners that spare nothing", y.best(4, 99999, 0, 1), 8);
        RainStreets z = spilling(6, 0);
        for (int k = 1; k <= 4; k++) {
            due.is("the least of as many", z.best(k, 99999, 7, 1), (1 << k) - 1);
        }
    }

    private static void helpsNumbers() {
        due.says("HELPS: of a new BED at a corner without one for another one (or itself). NONE: none such.");
        for (int corner : new int[] {-1, 4, 12, Integer.MIN_VALUE, Integer.MAX_VALUE}) {
            Twins.none(due, "corner " + corner, Twins::lively, x -> x.helps(corner, 0));
            Twins.none(due, "for corner " + corner, Twins::lively, x -> x.helps(2, corner));
        }
        Twins.none(due, "a bed is there", Twins::lively, x -> x.helps(0, 2));
        Twins.none(due, "a bed is there, for itself", Twins::lively, x -> x.helps(3, 3));
        Twins.none(due, "corner 12 of 12", Twins::full, x -> x.helps(12, 0));
        Twins.none(due, "for corner 12 of 12", Twins::full, x -> x.helps(11, 12));
        due.yes("the last for itself", Twins.full().helps(11, 11) > 0);
        due.yes("for one with a bed", Twins.full().helps(2, 0) == 0);
    }

    private static void helpsBounds() {
        due.says("by how much less SPILLS at a corner, if a new BED were at another one.");
        RainStreets x = new RainStreets();
        x.corner(20, 1, 9, 0);
        x.corner(1, 1, 0, 0);
        x.below(0, 1);
        Due.ruled(x, "parking 0;");
        due.is("no rain", x.helps(0, 0), 0);
        rains(x, 1);
        due.is("for itself: 10 less", x.helps(0, 0), 10);
        due.is("for the one below: 10 less of pipe and street", x.helps(0, 1), 10);
        due.is("for the one above none", x.helps(1, 0), 0);
        RainStreets y = new RainStreets();
        y.corner(20, 1, 0, 0);
        y.corner(20, 1, 0, 0);
        rains(y, 1);
        due.is("for one that isn't below", y.helps(0, 1), 0);
        rains(y, 50);
        due.is("a bowl of 100", y.helps(1, 1), 100);
        rains(y, 50, 50);
        due.is("and a drink of 20", y.helps(1, 1), 120);
    }

    private static void compareNumbers() {
        due.says("BEFORE and AFTER a DAY: LIKE ones (what 0), SPILT ahead (1), behind (2), whether it FELL beyond doubt (3: 1, 0). NONE: none such.");
        Twins.span(due, "day", 0, 3649, Twins::lively, 0, -1, (x, n) -> (int) x.compare(n, 0));
        Twins.asked(due, "what", 3, Twins::lively, (x, n) -> (int) x.compare(1, n));
        due.row("no storm", w -> new RainStreets().compare(0, w), 0, 0, 0, 0);
    }

    /** Storms of one minute on a corner of 10 with a pipe of 20, one a day. */
    private static RainStreets daily(String rules, int... much) {
        RainStreets x = oneCorner();
        Due.ruled(x, rules);
        for (int rain : much) {
            rains(x, rain);
            x.storm();
            x.pass(1);
        }
        return x;
    }

    private static void compareDay() {
        due.says("BEFORE and AFTER a DAY: each TOLD storm of that DAY or later with the one ahead of that DAY");
        RainStreets x = daily("", 10, 10, 10, 10);
        int[] like = {0, 3, 2, 1, 0};
        for (int day = 0; day < like.length; day++) {
            due.is("like on day " + day, x.compare(day, 0), like[day]);
        }
        RainStreets y = oneCorner();
        rains(y, 10);
        y.storm();
        y.storm();
        due.is("two of one day: none ahead of it", y.compare(0, 0), 0);
        due.is("two of one day: none behind it", y.compare(1, 0), 0);
        Due.passed(y, 3649);
        y.storm();
        due.is("one on the last day", y.compare(3649, 0), 1);
        due.row("one storm of no rain is like another", w -> daily("", 0, 0).compare(1, w), 1, 0, 0, 0);
        due.row("but not like one of some", w -> daily("doubt 99;", 1, 0).compare(1, w), 0, 0, 0, 0);
        due.row("nor one of some like it, but for a doubt of 100", w -> daily("doubt 99;", 0, 1).compare(1, w), 0, 0, 0, 0);
        due.row("of 100", w -> daily("doubt 100;", 0, 1).compare(1, w), 1, 0, 0, 0);
    }

    private static void compareDoubt() {
        due.says("of those whose rain differs from its by at most DOUBT hundredths of its, by TODAY's RULES");
        int[][] rains = {{8, 10, 19, 0}, {8, 10, 20, 1}, {12, 10, 19, 0}, {12, 10, 20, 1}, {10, 8, 24, 0}, {10, 8, 25, 1},
            {10, 12, 16, 0}, {10, 12, 17, 1}, {10, 10, 0, 1}, {11, 10, 0, 0}, {9, 10, 9, 0}, {9, 10, 10, 1}, {11, 10, 10, 1},
            {50, 1, 4899, 0}, {50, 1, 4900, 1}, {0, 50, 100, 1}, {0, 50, 99, 0}};
        for (int[] rain : rains) {
            RainStreets x = daily("doubt " + rain[2] + ";", rain[0], rain[1]);
            due.is(rain[0] + " ahead, " + rain[1] + " behind, doubt " + rain[2], x.compare(1, 0), rain[3]);
        }
        due.is("bare: 10 hundredths", daily("", 9, 10).compare(1, 0), 1);
        due.is("bare: 11 hundredths and more", daily("", 8, 9).compare(1, 0), 0);
        RainStreets x = daily("doubt 0;", 9, 10);
        due.is("none by the rules ahead", x.compare(1, 0), 0);
        Due.ruled(x, "doubt 10;");
        due.is("one by the rules of today", x.compare(1, 0), 1);
    }

    private static void compareNearest() {
        due.says("whose rain is nearest, of several the latest: LIKE ones; SPILT of the first, SPILT of the others, added.");
        // Each spills ten times its rain less 20.
        due.row("the nearest", w -> daily("doubt 50;", 8, 11, 13, 10).compare(3, w), 1, 90, 80, 0);
        due.row("as near on both sides: the latest", w -> daily("doubt 50;", 9, 11, 10).compare(2, w), 1, 90, 80, 0);
        due.row("the other way round", w -> daily("doubt 50;", 11, 9, 10).compare(2, w), 1, 70, 80, 0);
        due.row("a later one that is less near", w -> daily("doubt 50;", 11, 8, 10).compare(2, w), 1, 90, 80, 0);
        due.row("three behind, one ahead for two of them", w -> daily("", 10, 20, 10, 10, 20).compare(2, w), 3, 340, 340, 0);
        RainStreets x = oneCorner();
        rains(x, 10);
        x.storm();
        x.bed(0, 0, 30, false);
        x.storm();
        x.pass(1);
        x.storm();
        due.row("as near on one day: the latest", w -> x.compare(1, w), 1, 50, 50, 0);
    }

    private static void fell() {
        due.says("It FELL beyond doubt if those behind are less than those ahead by more than DOUBT hundredths of those ahead.");
        // 100 spilt ahead; a bowl takes some of it behind.
        int[][] falls = {{1, 0, 1}, {1, 1, 0}, {2, 1, 1}, {10, 10, 0}, {11, 10, 1}, {99, 99, 0}, {100, 99, 1}, {100, 100, 0}, {100, 9999, 0}};
        for (int[] fall : falls) {
            RainStreets x = new RainStreets();
            x.corner(10, 20, 0, 0);
            Due.ruled(x, "clog 0; doubt " + fall[1] + ";");
            rains(x, 12);
            x.storm();
            x.pass(1);
            x.bed(0, 0, fall[0], false);
            x.storm();
            due.row(fall[0] + " less, doubt " + fall[1], w -> x.compare(1, w), 1, 100, 100 - fall[0], fall[2]);
        }
        due.is("as much as ahead", daily("doubt 0;", 12, 12).compare(1, 3), 0);
        due.is("more than ahead", daily("doubt 9999;", 12, 13).compare(1, 3), 0);
        due.is("none like", daily("doubt 0;", 12, 11).compare(1, 3), 0);
        due.is("none spilt", daily("doubt 0;", 1, 1).compare(1, 3), 0);
    }
}
