/** The sentences on days, the crew, neighbours and fees that name a bound, each by its name: promises 9 and 22 to 25. */
public final class EdgesOfDaysTest {
    private static final Due due = new Due();

    public static void main(String[] args) {
        passNumbers();
        lastDay();
        dayOfRules();
        clogToTheTop();
        clogHalved();
        clogWithoutPlants();
        leavesBothEnds();
        leavesBeyondTheYear();
        leavesToTheTop();
        bowlEmpties();
        bowlClogged();
        standsJustOneMore();
        standsAgain();
        sixtyComplaints();
        thawDay();
        moreThanSalt();
        barrelsGive();
        turnsOfTheDay();
        oweOrKept();
        noBedNoTurn();
        crewNumbers();
        crewHours();
        crewGains();
        crewLeast();
        neighbourAsked();
        feeNumbers();
        feeLastDay();
        feeProved();
        feeKept();
        feeAtLeast();
        due.end();
    }

    /** Corners with a bed each, of lot 0 and a bowl of 500, under rules. */
    private static RainStreets withBeds(String rules, boolean... trees) {
        RainStreets x = new RainStreets();
        Due.ruled(x, rules);
        for (int corner = 0; corner < trees.length; corner++) {
            x.corner(10, 500, 0, 0);
            x.bed(corner, 0, 500, trees[corner]);
        }
        return x;
    }

    private static RainStreets on(int day) {
        RainStreets x = withBeds("", false);
        Due.passed(x, day);
        return x;
    }

    private static void passNumbers() {
        due.says("n DAYS (1 to 100) go by: TODAY. NONE, doing nothing: another n, above 3,649.");
        due.is("1", Twins.lively().pass(1), 4);
        due.is("100", Twins.lively().pass(100), 103);
        for (int n : new int[] {0, 101, -1, -100, 3650, Integer.MIN_VALUE, Integer.MAX_VALUE}) {
            Twins.none(due, "pass " + n, Twins::lively, x -> x.pass(n));
        }
        due.is("100 that go by are as one by one", oneByOne(), 0);
    }

    private static int oneByOne() {
        RainStreets x = Twins.lively();
        RainStreets y = Twins.lively();
        x.pass(100);
        for (int day = 0; day < 100; day++) {
            y.pass(1);
        }
        int apart = 0;
        for (int what = 0; what <= 13; what++) {
            apart += x.bedOf(0, what) == y.bedOf(0, what) && x.bedOf(3, what) == y.bedOf(3, what) ? 0 : 1;
        }
        for (int what = 0; what <= 6; what++) {
            apart += x.sum(what) == y.sum(what) ? 0 : 1;
        }
        return apart + (x.neighbour(3, 0) == y.neighbour(3, 0) ? 0 : 1);
    }

    private static void lastDay() {
        due.says("DAYS 0 to 3,649: TODAY is 0 at first");
        due.is("at first", new RainStreets().count(0), 0);
        due.is("to the last by 100", on(3549).pass(100), 3649);
        due.is("to the last by 1", on(3648).pass(1), 3649);
        due.says("NONE, doing nothing: another n, above 3,649.");
        Twins.none(due, "1 beyond by 100", () -> on(3550), x -> x.pass(100));
        Twins.none(due, "1 beyond by 2", () -> on(3648), x -> x.pass(2));
        Twins.none(due, "1 beyond by 1", () -> on(3649), x -> x.pass(1));
        Twins.none(due, "100 beyond", () -> on(3649), x -> x.pass(100));
        RainStreets x = on(3649);
        due.none("none of the days goes by", x.pass(1));
        due.is("today", x.count(0), 3649);
    }

    private static void dayOfRules() {
        due.says("A DAY goes by (by RULES on it), BEDS by corners:");
        RainStreets x = withBeds("clog 1;", false);
        x.pass(1);
        Due.ruled(x, "clog 10;");
        due.is("nothing ahead of the day's end", x.bedOf(0, 4), 1);
        x.pass(1);
        due.is("by the rules of the day that goes by", x.bedOf(0, 4), 11);
        Due.ruled(x, "clog 20;");
        Due.ruled(x, "clog 30;");
        x.pass(2);
        due.is("by the latest of the day", x.bedOf(0, 4), 71);
    }

    private static void clogToTheTop() {
        due.says("(a) CLOG goes up by CLOG, by half of it (cut) with a TREE, then twice that without PLANTS; 100 at most.");
        RainStreets x = withBeds("clog 99;", false, true);
        x.pass(1);
        due.is("99", x.bedOf(0, 4), 99);
        due.is("49", x.bedOf(1, 4), 49);
        Due.ruled(x, "clog 1;");
        x.pass(1);
        due.is("just 100", x.bedOf(0, 4), 100);
        due.is("half of 1, cut", x.bedOf(1, 4), 49);
        x.pass(1);
        due.is("100 at most", x.bedOf(0, 4), 100);
        due.is("drinks nothing", x.bedOf(0, 10), 0);
        RainStreets y = withBeds("clog 99;", false, true);
        y.pass(1);
        Due.ruled(y, "clog 2;");
        y.pass(1);
        due.is("101 is 100", y.bedOf(0, 4), 100);
        RainStreets z = withBeds("clog 9999;", false, true);
        z.pass(1);
        due.is("of 9999", z.bedOf(0, 4), 100);
        due.is("of 4999", z.bedOf(1, 4), 100);
        RainStreets v = withBeds("clog 0;", false, true);
        v.pass(100);
        due.is("of 0", v.bedOf(0, 4), 0);
        due.is("of half of 0", v.bedOf(1, 4), 0);
    }

    private static void clogHalved() {
        due.says("by half of it (cut) with a TREE");
        int[][] halves = {{0, 0}, {1, 0}, {2, 1}, {3, 1}, {4, 2}, {199, 99}, {200, 100}, {201, 100}};
        for (int[] half : halves) {
            RainStreets x = withBeds("clog " + half[0] + ";", true);
            x.pass(1);
            due.is("half of " + half[0], x.bedOf(0, 4), half[1]);
        }
    }

    private static void clogWithoutPlants() {
        due.says("then twice that without PLANTS; 100 at most.");
        int[][] clogs = {{0, 0, 0}, {1, 2, 0}, {2, 4, 2}, {3, 6, 2}, {49, 98, 48}, {50, 100, 50}, {51, 100, 50}, {9999, 100, 100}};
        for (int[] clog : clogs) {
            RainStreets x = withBeds("clog 0; salt 0;", false, true);
            x.treat(0, 0);
            x.treat(1, 0);
            x.pass(61);
            Due.ruled(x, "clog " + clog[0] + ";");
            x.pass(1);
            due.is("twice " + clog[0], x.bedOf(0, 4), clog[1]);
            due.is("twice the half, cut, of " + clog[0], x.bedOf(1, 4), clog[2]);
            x.treat(0, 1);
            x.care(0, 0);
            int ahead = x.bedOf(0, 4);
            x.pass(1);
            due.is("planted anew: once " + clog[0], x.bedOf(0, 4), Math.min(100, ahead + clog[0]));
        }
        RainStreets y = withBeds("clog 3; salt 0;", false);
        y.treat(0, 0);
        y.pass(60);
        for (int by = 0; by < 7; by++) {
            y.care(0, by);
        }
        y.pass(1);
        due.is("once on the day on which they die", y.bedOf(0, 4), 3);
        due.is("they died on it", y.bedOf(0, 7), 0);
    }

    private static void leavesBothEnds() {
        due.says("(b) On a DAY of the year from to of LEAVES (both ends; beyond the year's end if from is greater)");
        int[][] days = {{9, 0}, {10, 1}, {11, 1}, {12, 1}, {13, 0}};
        for (int[] day : days) {
            due.is("10 to 12, day " + day[0], leavesOf("leaves 10 to 12;", day[0]), day[1]);
            due.is("10 to 12, day " + day[0] + " of the second year", leavesOf("leaves 10 to 12;", 365 + day[0]), day[1]);
        }
        due.is("10 to 10, day 9", leavesOf("leaves 10 to 10;", 9), 0);
        due.is("10 to 10", leavesOf("leaves 10 to 10;", 10), 1);
        due.is("10 to 10, day 11", leavesOf("leaves 10 to 10;", 11), 0);
        due.is("0 to 0", leavesOf("leaves 0 to 0;", 0), 1);
        due.is("0 to 0, day 1", leavesOf("leaves 0 to 0;", 1), 0);
        due.is("0 to 0, day 365", leavesOf("leaves 0 to 0;", 365), 1);
        due.is("364 to 364", leavesOf("leaves 364 to 364;", 364), 1);
        due.is("364 to 364, day 363", leavesOf("leaves 364 to 364;", 363), 0);
        due.is("0 to 364, day 364", leavesOf("leaves 0 to 364;", 364), 1);
        due.is("365 to 9999: no such day of the year", leavesOf("leaves 365 to 9999;", 364), 0);
        due.is("365 to 9999, day 365", leavesOf("leaves 365 to 9999;", 365), 0);
        due.is("bare, day 249", leavesOf("", 249), 0);
        due.is("bare, day 250", leavesOf("", 250), 1);
        due.is("bare, day 320", leavesOf("", 320), 1);
        due.is("bare, day 321", leavesOf("", 321), 0);
    }

    private static void leavesBeyondTheYear() {
        due.says("beyond the year's end if from is greater");
        int[][] days = {{362, 0}, {363, 1}, {364, 1}, {365, 1}, {366, 1}, {367, 0}, {0, 1}, {1, 1}, {2, 0}};
        for (int[] day : days) {
            due.is("363 to 1, day " + day[0], leavesOf("leaves 363 to 1;", day[0]), day[1]);
        }
        int[][] wide = {{19, 1}, {20, 0}, {21, 1}};
        for (int[] day : wide) {
            due.is("21 to 19, day " + day[0], leavesOf("leaves 21 to 19;", day[0]), day[1]);
            due.is("20 to 19, day " + day[0], leavesOf("leaves 20 to 19;", day[0]), 1);
        }
        due.is("9999 to 0, day 0", leavesOf("leaves 9999 to 0;", 0), 1);
        due.is("9999 to 0, day 1", leavesOf("leaves 9999 to 0;", 1), 0);
        due.is("9999 to 0, day 364", leavesOf("leaves 9999 to 0;", 364), 0);
    }

    /** The leaves that a bed without them gets on a day. */
    private static int leavesOf(String rules, int day) {
        RainStreets x = withBeds(rules, false);
        Due.passed(x, day);
        x.care(0, 0);
        x.pass(1);
        return x.bedOf(0, 5);
    }

    private static void leavesToTheTop() {
        due.says("LEAVES go up by 1 (2 at a TREE), 10 at most.");
        RainStreets x = withBeds("leaves 0 to 364;", false, true);
        for (int day = 1; day <= 12; day++) {
            x.pass(1);
            due.is("by 1", x.bedOf(0, 5), Math.min(10, day));
            due.is("by 2", x.bedOf(1, 5), Math.min(10, 2 * day));
        }
    }

    private static void bowlEmpties() {
        due.says("(c) What is in the BOWL goes down by 20 times DRINK, 0 at least (DRUNK); if some is left STANDS goes up by 1, else it's 0");
        bowlOf(60, 0, 0);
        bowlOf(59, 0, 0);
        bowlOf(61, 1, 1);
        bowlOf(1, 0, 0);
        bowlOf(0, 0, 0);
    }

    /** A bowl that has so much, of a bed that drinks 60 a day: what is left, and how many days it stands. */
    private static void bowlOf(int much, int left, int stands) {
        RainStreets x = new RainStreets();
        Due.ruled(x, "clog 0;");
        x.corner(much + 1, 500, 0, 0);
        x.lot(0, 1);
        x.bed(0, 0, 500, false);
        x.rain(1);
        x.storm();
        due.is("in the bowl", x.bedOf(0, 8), much);
        x.lot(0, 3);
        x.pass(1);
        due.is("left of " + much, x.bedOf(0, 8), left);
        due.is("drunk of " + much, x.sum(1), 1 + much - left);
        due.is("stands, of " + much, x.bedOf(0, 9), stands);
        x.pass(1);
        due.is("none left of " + much, x.bedOf(0, 8), 0);
        due.is("stands no more, of " + much, x.bedOf(0, 9), 0);
        due.is("all drunk of " + much, x.sum(1), 1 + much);
    }

    private static void bowlClogged() {
        due.says("(c) What is in the BOWL goes down by 20 times DRINK, 0 at least (DRUNK)");
        RainStreets x = withBeds("clog 99;", false);
        x.lot(0, 100);
        x.rain(20);
        x.storm();
        due.is("in the bowl", x.bedOf(0, 8), 100);
        x.pass(1);
        due.is("clogged ahead of drinking: 20 times 1", x.bedOf(0, 8), 80);
        x.pass(5);
        due.is("20 times 0", x.bedOf(0, 8), 80);
        due.is("stands on", x.bedOf(0, 9), 6);
    }

    private static RainStreets wet(String rules) {
        RainStreets x = withBeds(rules, false, false);
        x.rain(10);
        x.storm();
        return x;
    }

    private static void standsJustOneMore() {
        due.says("as STANDS is just 1 more than STAND a COMPLAINT of kind 2 is told");
        for (int stand = 0; stand <= 4; stand++) {
            RainStreets x = wet("clog 9999; stand " + stand + ";");
            due.is("none as it comes", x.count(9), 0);
            for (int day = 1; day <= 7; day++) {
                x.pass(1);
                due.is("stands", x.bedOf(0, 9), day);
                due.is("told where it stands " + day + " of " + stand, x.count(9), day > stand ? 2 : 0);
            }
            due.row("the first", w -> x.complaint(0, w), 0, 2, stand, stand, 1, 1);
            due.is("the next by corners", x.complaint(1, 0), 1);
        }
        RainStreets x = wet("clog 9999;");
        x.pass(3);
        due.is("bare: none at 3", x.count(9), 0);
        x.pass(1);
        due.is("bare: at 4", x.count(9), 2);
        RainStreets dry = withBeds("stand 0;", false);
        dry.pass(10);
        due.is("none where none is left", dry.count(9), 0);
    }

    private static void standsAgain() {
        due.says("if some is left STANDS goes up by 1, else it's 0; as STANDS is just 1 more than STAND");
        RainStreets x = wet("clog 9999; stand 1;");
        x.pass(2);
        due.is("told", x.count(9), 2);
        x.close(0);
        Due.ruled(x, "clog 0; stand 1;");
        x.care(0, 0);
        x.care(0, 1);
        x.care(0, 2);
        x.care(0, 3);
        x.pass(1);
        due.is("none left", x.bedOf(0, 9), 0);
        x.storm();
        Due.ruled(x, "clog 9999; stand 1;");
        x.pass(1);
        due.is("stands anew", x.bedOf(0, 9), 1);
        due.is("not yet", x.count(9), 2);
        x.pass(1);
        due.is("told anew", x.count(9), 3);
        due.is("of corner 0", x.complaint(2, 0), 0);
    }

    private static RainStreets wetWith(int complaints) {
        RainStreets x = wet("clog 9999; stand 0;");
        for (int i = 0; i < complaints; i++) {
            x.complain(0, 1);
            x.close(i);
        }
        return x;
    }

    private static void sixtyComplaints() {
        due.says("a COMPLAINT of kind 2 is told (none if 60 are there)");
        RainStreets x = wetWith(58);
        x.pass(1);
        due.is("two to 60", x.count(9), 60);
        due.is("both open", x.count(10), 2);
        RainStreets y = wetWith(59);
        y.pass(1);
        due.is("one to 60", y.count(9), 60);
        due.row("of the first corner", w -> y.complaint(59, w), 0, 2, 0, 0, 1, 1);
        due.is("none of the second", y.count(10), 1);
        RainStreets z = wetWith(60);
        z.pass(1);
        due.is("none", z.count(9), 60);
        due.is("none open", z.count(10), 0);
        due.is("the day goes by", z.count(0), 1);
        due.is("it stands", z.bedOf(0, 9), 1);
    }

    private static void thawDay() {
        due.says("(d) On DAY of the year 60: PLANTS of a BED with more than SALT of SALT die; then SALT is 0.");
        int[][] days = {{58, 0}, {59, 0}, {60, 1}, {61, 0}, {364, 0}, {365, 0}, {424, 0}, {425, 1}, {426, 0}};
        for (int[] day : days) {
            RainStreets x = withBeds("salt 9;", false);
            Due.passed(x, day[0]);
            x.treat(0, 0);
            x.pass(1);
            due.is("plants, day " + day[0], x.bedOf(0, 7), 1 - day[1]);
            due.is("salt, day " + day[0], x.bedOf(0, 6), 10 - 10 * day[1]);
        }
    }

    private static void moreThanSalt() {
        due.says("PLANTS of a BED with more than SALT of SALT die; then SALT is 0.");
        int[][] salts = {{0, 0, 1}, {10, 0, 0}, {10, 9, 0}, {10, 10, 1}, {10, 11, 1}, {100, 99, 0}, {100, 100, 1}, {100, 9999, 1}};
        for (int[] salt : salts) {
            RainStreets x = withBeds("salt " + salt[1] + ";", false);
            for (int i = 0; i < salt[0]; i += 10) {
                x.treat(0, 0);
            }
            x.pass(61);
            due.is(salt[0] + " of " + salt[1], x.bedOf(0, 7), salt[2]);
            due.is("salt", x.bedOf(0, 6), 0);
        }
        RainStreets x = withBeds("", false, false);
        for (int i = 0; i < 7; i++) {
            x.treat(i < 3 ? 0 : 1, 0);
        }
        x.pass(61);
        due.is("bare: 30 of 30", x.bedOf(0, 7), 1);
        due.is("bare: 40 of 30", x.bedOf(1, 7), 0);
        Due.passed(x, 365);
        due.is("the dead stay dead", x.bedOf(1, 7), 0);
    }

    private static void barrelsGive() {
        due.says("Then each BARREL gives 5 (as far as it has; USED)");
        int[][] barrels = {{7, 2}, {0, 0}, {1, 0}, {4, 0}, {5, 0}, {6, 1}, {50, 45}};
        RainStreets x = new RainStreets();
        x.corner(1, 500, 0, 0);
        int all = 0;
        for (int roof = 0; roof < barrels.length; roof++) {
            x.roof(0, 0, 50, barrels[roof][0]);
            all += barrels[roof][0];
        }
        x.pass(1);
        due.is("none of empty ones", x.sum(5), 0);
        x.rain(1);
        x.storm();
        due.is("full", x.sum(6), all);
        x.pass(1);
        for (int roof = 0; roof < barrels.length; roof++) {
            due.is("left of " + barrels[roof][0], x.roofOf(roof, 4), barrels[roof][1]);
        }
        due.is("used", x.sum(5), 5 + 1 + 4 + 5 + 5 + 5);
        due.is("left", x.sum(6), 48);
        x.pass(10);
        due.is("all used", x.sum(5), all);
        due.is("none left", x.sum(6), 0);
    }

    private static void turnsOfTheDay() {
        due.says("each so manieth DAY from a DAY on");
        RainStreets x = withBeds("owe 1; turn 0 at 0 every 3 from 2; turn 1 at 0 every 1 from 0; turn 2 at 0 every 9999 from 4;"
            + "turn 3 at 0 every 1 from 6;", false);
        int[][] owes = {{0, 1, 0, 0}, {0, 2, 0, 0}, {1, 3, 0, 0}, {1, 4, 0, 0}, {1, 5, 1, 0}, {2, 6, 1, 0}, {2, 7, 1, 1}};
        for (int[] each : owes) {
            x.pass(1);
            for (int neighbour = 0; neighbour < 4; neighbour++) {
                due.is(neighbour + " owes behind day " + (x.count(0) - 1), x.neighbour(neighbour, 0), each[neighbour]);
            }
        }
    }

    private static void oweOrKept() {
        due.says("for which that NEIGHBOUR didn't care on it: the NEIGHBOUR OWES; else it was KEPT.");
        RainStreets x = withBeds("turn 0 at 0 every 1 from 0; turn 9 at 0 every 1 from 0;", false);
        x.care(0, 9);
        x.care(0, 10);
        x.care(0, 8);
        x.pass(1);
        due.row("0 didn't: 3, bare", w -> x.neighbour(0, w), 3, 0);
        due.row("9 did", w -> x.neighbour(9, w), 0, 1);
        due.row("8 has no turn", w -> x.neighbour(8, w), 0, 0);
        x.pass(1);
        due.row("care of the day ahead is none of it", w -> x.neighbour(9, w), 3, 1);
        Due.ruled(x, "owe 0; turn 0 at 0 every 1 from 0;");
        x.pass(1);
        due.row("owe 0", w -> x.neighbour(0, w), 6, 0);
        Due.ruled(x, "owe 9999; turn 0 at 0 every 1 from 0;");
        x.pass(100);
        due.is("owe 9999, a hundred times", x.neighbour(0, 0), 999906);
    }

    private static void noBedNoTurn() {
        due.says("each \"turn\" of the DAY at a corner with a BED");
        RainStreets x = new RainStreets();
        x.corner(1, 1, 0, 0);
        Due.ruled(x, "turn 0 at 0 every 1 from 0; turn 0 at 1 every 1 from 0;");
        x.pass(2);
        due.row("no bed", w -> x.neighbour(0, w), 0, 0);
        x.bed(0, 0, 1, false);
        x.pass(1);
        due.row("a bed", w -> x.neighbour(0, w), 3, 0);
        x.corner(1, 1, 0, 0);
        x.pass(1);
        due.row("a corner without one", w -> x.neighbour(0, w), 6, 0);
    }

    private static void crewNumbers() {
        due.says("CREW: what DRINK is more (what 0), the set (1), hours (2). NONE: not as told (hours 0 to 60).");
        Twins.span(due, "hours", 0, 60, Twins::empty, 0, -1, (x, n) -> x.crew(n, 0));
        Twins.asked(due, "what", 2, Twins::lively, (x, n) -> x.crew(60, n));
        due.row("none for 0 hours", w -> Twins.lively().crew(0, w), 0, 0, 0);
        due.yes("some for 60", Twins.lively().crew(60, 0) > 0);
    }

    /** Twelve beds of a clog of 30 each, that drink 1, 2, .. a minute more for the crew. */
    private static RainStreets forTheCrew(int beds) {
        RainStreets x = new RainStreets();
        Due.ruled(x, "clog 30;");
        for (int corner = 0; corner < 12; corner++) {
            x.corner(1, 1, 0, 0);
            if (corner >= 12 - beds) {
                x.bed(corner, 0, 1, false);
            }
        }
        x.pass(1);
        return x;
    }

    private static void crewHours() {
        due.says("it walks from corner 0 on by numbers to the last BED it cares for (1 hour a number), 2 hours for each BED");
        RainStreets x = forTheCrew(12);
        due.row("1 hour", w -> x.crew(1, w), 0, 0, 0);
        due.row("2 hours: corner 0", w -> x.crew(2, w), 6, 1, 2);
        due.row("4 hours", w -> x.crew(4, w), 6, 1, 2);
        due.row("5 hours: to corner 1", w -> x.crew(5, w), 12, 3, 5);
        due.row("34 hours", w -> x.crew(34, w), 66, 2047, 32);
        due.row("35 hours: all twelve", w -> x.crew(35, w), 72, 4095, 35);
        due.row("60 hours", w -> x.crew(60, w), 72, 4095, 35);
        RainStreets y = forTheCrew(1);
        due.row("12 hours", w -> y.crew(12, w), 0, 0, 0);
        due.row("13 hours: the last corner alone", w -> y.crew(13, w), 6, 2048, 13);
    }

    private static void crewGains() {
        due.says("the greatest sum of what their DRINK would be more (CLOG less 30)");
        int[][] clogs = {{0, 0}, {1, 1}, {29, 29}, {30, 30}, {31, 30}, {70, 30}, {99, 30}, {100, 30}};
        for (int[] clog : clogs) {
            RainStreets x = withBeds("clog " + clog[0] + ";", false);
            x.lot(0, 100);
            x.pass(1);
            due.row("of clog " + clog[0], w -> x.crew(2, w), clog[1], clog[1] > 0 ? 1 : 0, clog[1] > 0 ? 2 : 0);
        }
        RainStreets x = withBeds("clog 1;", false);
        x.lot(0, 1);
        x.pass(1);
        due.is("0.99 cut is 0, so 1 is more", x.crew(2, 0), 1);
        Due.ruled(x, "clog 99;");
        x.pass(1);
        due.row("0.3 cut is 0, so none is more", w -> x.crew(2, w), 0, 0, 0);
    }

    private static void crewLeast() {
        due.says("of several the least as a number.");
        RainStreets x = forTheCrew(12);
        due.is("one of twelve", x.crew(3, 1), 1);
        due.is("two of twelve", x.crew(6, 1), 3);
        x.care(0, 0);
        due.is("care of corner 0 is no more: the least without it", x.crew(60, 1), 4094);
        due.is("one of the others", x.crew(3, 1), 2);
        for (int corner = 1; corner < 12; corner++) {
            x.care(corner, 0);
        }
        due.row("nothing is more: the empty set", w -> x.crew(60, w), 0, 0, 0);
    }

    private static void neighbourAsked() {
        due.says("What a NEIGHBOUR (0 to 9) OWES (what 0), turns KEPT ever (1). NONE: none such.");
        Twins.span(due, "neighbour", 0, 9, Twins::empty, 0, -1, (x, n) -> x.neighbour(n, 0));
        Twins.asked(due, "what", 1, Twins::lively, (x, n) -> x.neighbour(3, n));
    }

    private static void feeNumbers() {
        due.says("FEE of an OWNER for a YEAR (0 to 9). NONE: none such.");
        Twins.span(due, "owner", 0, 19, Twins::empty, 0, -1, (x, n) -> x.fee(n, 0));
        Twins.span(due, "year", 0, 9, Twins::lively, 50, -1, (x, n) -> x.fee(9, n));
    }

    private static void feeLastDay() {
        due.says("FEE of an OWNER for a YEAR (by RULES on its last DAY)");
        int[][] days = {{363, 6, 6}, {364, 6, 6}, {365, 5, 6}, {729, 5, 6}, {730, 5, 5}};
        for (int[] day : days) {
            RainStreets x = new RainStreets();
            x.corner(1, 1, 0, 0);
            x.roof(0, 0, 1, 0);
            Due.passed(x, day[0]);
            Due.ruled(x, "fee 6 credit 0 bed 0;");
            due.is("year 0, told on day " + day[0], x.fee(0, 0), day[1]);
            due.is("year 1, told on day " + day[0], x.fee(0, 1), day[2]);
            due.is("the last year", x.fee(0, 9), 6);
        }
        RainStreets x = new RainStreets();
        x.corner(1, 1, 0, 0);
        x.roof(0, 0, 1, 0);
        Due.passed(x, 3649);
        Due.ruled(x, "fee 7 credit 0 bed 0;");
        due.is("told on the last of all days", x.fee(0, 9), 7);
        due.is("the year ahead of it", x.fee(0, 8), 5);
    }

    private static void feeProved() {
        due.says("less CREDIT times what its BARREL holds at most if it was PROVED in that YEAR");
        RainStreets x = new RainStreets();
        x.corner(1, 1, 0, 0);
        x.roof(0, 0, 50, 100);
        Due.ruled(x, "fee 10 credit 3 bed 0;");
        due.is("never", x.fee(0, 0), 500);
        Due.passed(x, 364);
        x.prove(0);
        due.is("on the year's last day: of what it holds at most, though it's empty", x.fee(0, 0), 200);
        due.is("not the next year", x.fee(0, 1), 500);
        Due.passed(x, 1);
        due.is("that year stays", x.fee(0, 0), 200);
        x.prove(0);
        due.is("on the next one's first", x.fee(0, 1), 200);
        due.is("both", x.fee(0, 0), 200);
        Due.passed(x, 3284);
        x.prove(0);
        due.is("on the very last day", x.fee(0, 9), 200);
        due.is("not the year ahead", x.fee(0, 8), 500);
    }

    private static void feeKept() {
        due.says("less BED for each \"turn\" KEPT in it by the NEIGHBOUR of that number");
        RainStreets x = new RainStreets();
        x.corner(1, 1, 0, 0);
        x.bed(0, 0, 1, false);
        x.roof(0, 9, 20, 0);
        x.roof(0, 10, 20, 0);
        x.roof(0, 0, 20, 0);
        x.roof(0, 19, 20, 0);
        Due.ruled(x, "turn 9 at 0 every 1 from 364; turn 0 at 0 every 1 from 364; turn 10 at 0 every 1 from 0;");
        Due.passed(x, 364);
        x.care(0, 9);
        x.care(0, 10);
        x.pass(1);
        due.is("9 kept one on the year's last day", x.fee(9, 0), 90);
        due.is("none in the next", x.fee(9, 1), 100);
        due.is("0 owes: no less", x.fee(0, 0), 100);
        due.is("10 is no neighbour", x.fee(10, 0), 100);
        due.is("nor is 19", x.fee(19, 0), 100);
        x.care(0, 9);
        x.care(0, 0);
        x.pass(1);
        due.is("on the next one's first", x.fee(9, 1), 90);
        due.is("as it was", x.fee(9, 0), 90);
        due.is("0 kept one", x.fee(0, 1), 90);
        due.is("none of year 0", x.fee(0, 0), 100);
        due.is("ever", x.neighbour(9, 1), 2);
        Due.passed(x, 3282);
        due.is("the day ahead of the last", x.count(0), 3648);
        x.care(0, 9);
        x.pass(1);
        due.is("on the last day that goes by", x.fee(9, 9), 90);
        due.is("ever, of three years", x.neighbour(9, 1), 3);
    }

    private static void feeAtLeast() {
        due.says("FEE times AREAS of ROOFS, less CREDIT times what its BARREL holds at most if it was PROVED in that YEAR, less BED for each \"turn\" KEPT in it by the NEIGHBOUR of that number; 0 at least.");
        feeOf(10, 0, 1);
        feeOf(10, 1, 0);
        feeOf(10, 2, 0);
        feeOf(0, 20, 1);
        feeOf(0, 21, 0);
        feeOf(0, 22, 0);
        feeOf(9999, 9999, 0);
        feeOf(0, 0, 21);
        RainStreets x = new RainStreets();
        x.corner(1, 1, 0, 0);
        for (int roof = 0; roof < 30; roof++) {
            x.roof(0, 19, 50, 200);
        }
        Due.ruled(x, "fee 9999 credit 9999 bed 9999;");
        due.is("the greatest", x.fee(19, 0), 14998500);
        for (int roof = 0; roof < 30; roof++) {
            x.prove(roof);
        }
        due.is("the least", x.fee(19, 0), 0);
    }

    /** The fee of 7 for roofs of 1 and 2, with barrels of 1 each that were proved, and one turn kept. */
    private static void feeOf(int credit, int bed, int fee) {
        RainStreets x = new RainStreets();
        x.corner(1, 1, 0, 0);
        x.bed(0, 0, 1, false);
        x.roof(0, 1, 1, 1);
        x.roof(0, 1, 2, 1);
        Due.ruled(x, "turn 1 at 0 every 1 from 0; fee 7 credit " + credit + " bed " + bed + ";");
        x.prove(0);
        x.prove(1);
        x.care(0, 1);
        x.pass(1);
        due.is("21 less twice " + credit + " less " + bed, x.fee(1, 0), fee);
    }
}
