/** The sentences on looks, complaints, sums and counts that name a bound, each by its name: promises 26 to 30, 35 and 36. */
public final class EdgesOfLooksTest {
    private static final Due due = new Due();

    public static void main(String[] args) {
        lookNumbers();
        lookSpans();
        lookByRules();
        twoLooks();
        greatestMean();
        worstAsked();
        complainNumbers();
        sevenDays();
        toldOrJoined();
        ofItsKindThere();
        openAlone();
        sixty();
        joinedAtSixty();
        closed();
        complaintAsked();
        sumAsked();
        countAsked();
        countBounds();
        due.end();
    }

    /** A corner with a bed for each lot. */
    private static RainStreets withLots(int... lots) {
        RainStreets x = new RainStreets();
        for (int corner = 0; corner < lots.length; corner++) {
            x.corner(10, 20, 1, 0);
            x.bed(corner, lots[corner], 50, false);
        }
        return x;
    }

    private static RainStreets withGrades(int[] lots, int... grades) {
        RainStreets x = withLots(lots);
        for (int corner = 0; corner < grades.length; corner++) {
            if (grades[corner] >= 0) {
                x.look(corner, grades[corner]);
            }
        }
        return x;
    }

    private static void lookNumbers() {
        due.says("A LOOK: how many there are ever. NONE, doing nothing: no BED, not as told.");
        Twins.span(due, "grade", 0, 3, Twins::lively, 3, -1, (x, n) -> x.look(0, n));
        for (int corner : new int[] {-1, 2, 4, 12, Integer.MIN_VALUE, Integer.MAX_VALUE}) {
            Twins.none(due, "corner " + corner, Twins::lively, x -> x.look(corner, 0));
        }
        due.is("the last corner", Twins.lively().look(3, 0), 3);
        RainStreets x = withLots(0);
        for (int look = 1; look <= 400; look++) {
            due.is("looks at one bed", x.look(0, look % 4), look);
        }
        due.is("ever", x.count(8), 400);
        due.is("the latest", x.bedOf(0, 11), 0);
    }

    private static void lookSpans() {
        due.says("LOOKS at BEDS: a grade 0 to 3; a BED's DRINK by its latest LOOK lies from to hundredths (by RULES TODAY) of what its LOT drinks (cut).");
        int[][] drinks = {{1, 0, 1, 0, 0, 0, 0, 0, 0}, {2, 1, 2, 1, 1, 0, 1, 0, 0}, {5, 4, 5, 2, 4, 1, 2, 0, 1},
            {99, 79, 99, 49, 79, 19, 49, 0, 19}, {100, 80, 100, 50, 80, 20, 50, 0, 20}};
        for (int[] drink : drinks) {
            RainStreets x = withLots(3);
            x.lot(3, drink[0]);
            for (int grade = 0; grade <= 3; grade++) {
                x.look(0, grade);
                due.is("grade", x.bedOf(0, 11), grade);
                due.is("from, of " + drink[0] + " at " + grade, x.bedOf(0, 12), drink[1 + 2 * grade]);
                due.is("to, of " + drink[0] + " at " + grade, x.bedOf(0, 13), drink[2 + 2 * grade]);
            }
        }
        RainStreets x = withLots(0);
        Due.ruled(x, "clog 9999;");
        x.pass(1);
        x.look(0, 0);
        due.is("of what the lot drinks, though the bed drinks nothing", x.bedOf(0, 13), 20);
    }

    private static void lookByRules() {
        due.says("lies from to hundredths (by RULES TODAY) of what its LOT drinks (cut)");
        RainStreets x = withLots(0);
        x.lot(0, 99);
        x.look(0, 3);
        Due.ruled(x, "look 3 from 9999 to 0;");
        due.is("from 9999", x.bedOf(0, 12), 9899);
        due.is("to 0", x.bedOf(0, 13), 0);
        x.pass(1);
        Due.ruled(x, "look 3 from 1 to 2; look 2 from 3 to 4;");
        due.is("from 1: 0.99, cut", x.bedOf(0, 12), 0);
        due.is("to 2: 1.98, cut", x.bedOf(0, 13), 1);
    }

    private static void twoLooks() {
        due.says("WORST LOT: of LOTS with 2 LOOKS or more (latest ones of BEDS of it)");
        due.none("no look", withLots(5, 5).worst(0));
        due.none("one look", withGrades(new int[] {5, 5}, 3).worst(0));
        due.none("one look each of two lots", withGrades(new int[] {5, 6}, 3, 3).worst(0));
        RainStreets one = withGrades(new int[] {5, 5}, 3);
        one.look(0, 2);
        one.look(0, 1);
        due.none("three looks at one bed: one latest", one.worst(0));
        due.row("two", w -> withGrades(new int[] {5, 5}, 3, 3).worst(w), 5, 6, 2);
        due.row("two of three beds", w -> withGrades(new int[] {5, 5, 5}, 3, -1, 0).worst(w), 5, 3, 2);
        due.row("two of grade 0", w -> withGrades(new int[] {9, 9}, 0, 0).worst(w), 9, 0, 2);
        due.row("twelve", w -> withGrades(new int[12], 3, 3, 3, 3, 3, 3, 3, 3, 3, 3, 3, 3).worst(w), 0, 36, 12);
        due.row("two beat one that is worse", w -> withGrades(new int[] {1, 2, 2}, 3, 0, 0).worst(w), 2, 0, 2);
    }

    private static void greatestMean() {
        due.says("that with the greatest mean grade; of several the least.");
        int[] pairs = {4, 4, 7, 7};
        due.row("as much: the least", w -> withGrades(pairs, 1, 2, 2, 1).worst(w), 4, 3, 2);
        due.row("one more: the greater", w -> withGrades(pairs, 1, 2, 2, 2).worst(w), 7, 4, 2);
        due.row("one less: the lesser", w -> withGrades(pairs, 2, 2, 2, 1).worst(w), 4, 4, 2);
        int[] five = {8, 8, 3, 3, 3};
        due.row("5 of 3 is more than 3 of 2", w -> withGrades(five, 1, 2, 2, 2, 1).worst(w), 3, 5, 3);
        due.row("4 of 3 is less than 3 of 2", w -> withGrades(five, 1, 2, 2, 2, 0).worst(w), 8, 3, 2);
        due.row("6 of 3 is as much as 4 of 2", w -> withGrades(five, 2, 2, 3, 3, 0).worst(w), 3, 6, 3);
        int[] ends = {9, 9, 0, 0};
        due.row("lot 9", w -> withGrades(ends, 1, 1, 1, 0).worst(w), 9, 2, 2);
        due.row("lot 0", w -> withGrades(ends, 1, 1, 1, 1).worst(w), 0, 2, 2);
        due.row("all 0: the least", w -> withGrades(ends, 0, 0, 0, 0).worst(w), 0, 0, 2);
    }

    private static void worstAsked() {
        due.says("WORST LOT (what 0; NONE), its grades added (1), its LOOKS (2). NONE: none.");
        Twins.Made made = () -> withGrades(new int[] {5, 5}, 3, 3);
        Twins.asked(due, "what", 2, made, (x, n) -> x.worst(n));
        for (int what = 0; what <= 2; what++) {
            int one = what;
            Twins.none(due, "none, what " + what, Twins::empty, x -> x.worst(one));
            Twins.none(due, "none, what " + what, Twins::unseen, x -> x.worst(one));
        }
        Twins.asked(due, "what", 2, Twins::lively, (x, n) -> x.worst(n));
    }

    private static void complainNumbers() {
        due.says("A COMPLAINT: its number (JOINED: that one's). NONE, doing nothing: not as told; or none can be JOINED and 60 are there.");
        Twins.span(due, "kind", 0, 3, Twins::lively, 3, -1, (x, n) -> x.complain(2, n));
        for (int corner : new int[] {-1, 4, 12, Integer.MIN_VALUE, Integer.MAX_VALUE}) {
            Twins.none(due, "corner " + corner, Twins::lively, x -> x.complain(corner, 0));
        }
        due.is("the last corner", Twins.lively().complain(3, 0), 3);
        due.is("JOINED: that one's", Twins.lively().complain(0, 0), 0);
        due.is("how many are there", Twins.lively().count(9), 3);
    }

    private static RainStreets complained(int days) {
        RainStreets x = withLots(0, 0);
        x.pass(1);
        x.complain(1, 3);
        Due.passed(x, days);
        return x;
    }

    private static void sevenDays() {
        due.says("JOINED with one of its kind there that is open and told or joined 7 DAYS ago or less; else a new one (up to 60).");
        int[][] days = {{0, 0}, {1, 0}, {6, 0}, {7, 0}, {8, 1}, {9, 1}, {365, 1}};
        for (int[] day : days) {
            RainStreets x = complained(day[0]);
            due.is(day[0] + " days ago", x.complain(1, 3), day[1]);
            due.is("how many", x.count(9), 1 + day[1]);
            due.is("joined last", x.complaint(0, 3), day[1] == 0 ? 1 + day[0] : 1);
            due.is("how often", x.complaint(0, 4), 2 - day[1]);
            due.is("told", x.complaint(0, 2), 1);
        }
    }

    private static void toldOrJoined() {
        due.says("told or joined 7 DAYS ago or less");
        RainStreets x = complained(7);
        due.is("7 days", x.complain(1, 3), 0);
        x.pass(7);
        due.is("7 days since joined", x.complain(1, 3), 0);
        x.pass(7);
        due.is("7 days since joined again", x.complain(1, 3), 0);
        due.row("as told once", w -> x.complaint(0, w), 1, 3, 1, 22, 4, 1);
        x.pass(8);
        due.is("8 days since", x.complain(1, 3), 1);
        x.pass(1);
        due.is("with the new one", x.complain(1, 3), 1);
        due.row("the new one", w -> x.complaint(1, w), 1, 3, 30, 31, 2, 1);
        due.row("the old one stays open", w -> x.complaint(0, w), 1, 3, 1, 22, 4, 1);
    }

    private static void ofItsKindThere() {
        due.says("COMPLAINTS of kinds 0 to 3 at corners: JOINED with one of its kind there");
        RainStreets x = withLots(0, 0, 0);
        for (int corner = 0; corner < 3; corner++) {
            for (int kind = 0; kind <= 3; kind++) {
                due.is("a new one", x.complain(corner, kind), 4 * corner + kind);
            }
        }
        for (int corner = 0; corner < 3; corner++) {
            for (int kind = 0; kind <= 3; kind++) {
                due.is("joined", x.complain(corner, kind), 4 * corner + kind);
            }
        }
        due.is("twelve", x.count(9), 12);
    }

    private static void openAlone() {
        due.says("with one of its kind there that is open");
        RainStreets x = complained(0);
        x.close(0);
        due.is("closed: a new one", x.complain(1, 3), 1);
        due.is("the closed one is told once", x.complaint(0, 4), 1);
        due.is("joined with the open one", x.complain(1, 3), 1);
    }

    private static RainStreets many(int complaints) {
        RainStreets x = withLots(0, 0);
        for (int i = 0; i < complaints; i++) {
            x.complain(0, 0);
            x.close(i);
        }
        return x;
    }

    private static void sixty() {
        due.says("else a new one (up to 60)");
        due.is("the 60th", many(59).complain(1, 1), 59);
        RainStreets x = many(59);
        x.complain(1, 1);
        due.is("60", x.count(9), 60);
        due.row("the last", w -> x.complaint(59, w), 1, 1, 0, 0, 1, 1);
        due.says("or none can be JOINED and 60 are there.");
        Twins.none(due, "a 61st", () -> many(60), y -> y.complain(1, 1));
        Twins.none(due, "a 61st of a kind that is closed", () -> many(60), y -> y.complain(0, 0));
    }

    private static void joinedAtSixty() {
        due.says("JOINED: that one's). NONE, doing nothing: not as told; or none can be JOINED and 60 are there.");
        RainStreets x = many(59);
        x.complain(1, 1);
        x.pass(7);
        due.is("joined where 60 are there", x.complain(1, 1), 59);
        due.is("twice", x.complaint(59, 4), 2);
        x.pass(8);
        due.none("8 days ago: none can be joined", x.complain(1, 1));
        due.is("as it was", x.complaint(59, 3), 7);
        due.is("as often", x.complaint(59, 4), 2);
    }

    private static void closed() {
        due.says("A COMPLAINT is closed: true; false: none such that is open.");
        for (int complaint : new int[] {-1, 3, 60, Integer.MIN_VALUE, Integer.MAX_VALUE}) {
            Twins.no(due, "complaint " + complaint, Twins::lively, x -> x.close(complaint));
        }
        Twins.no(due, "closed already", Twins::full, x -> x.close(0));
        Twins.no(due, "closed already, the last of them", Twins::full, x -> x.close(11));
        Twins.no(due, "60 of 60", Twins::full, x -> x.close(60));
        due.yes("59 of 60", Twins.full().close(59));
        due.yes("12 of 60", Twins.full().close(12));
        RainStreets x = complained(0);
        due.is("one open", x.count(10), 1);
        due.yes("closed", x.close(0));
        due.is("none open", x.count(10), 0);
        due.is("not open", x.complaint(0, 5), 0);
        due.is("one there", x.count(9), 1);
        due.no("twice", x.close(0));
        x.pass(8);
        RainStreets y = complained(100);
        due.yes("one of long ago is open still", y.close(0));
    }

    private static void complaintAsked() {
        due.says("Of a COMPLAINT: 0 corner, 1 kind, 2 DAY told, 3 DAY joined last (or told), 4 how often, 5 open (1). NONE: none such.");
        Twins.asked(due, "what", 5, Twins::lively, (x, n) -> x.complaint(0, n));
        for (int complaint : new int[] {-1, 3, 60, Integer.MIN_VALUE, Integer.MAX_VALUE}) {
            Twins.none(due, "complaint " + complaint, Twins::lively, x -> x.complaint(complaint, 0));
        }
        Twins.none(due, "complaint 60 of 60", Twins::full, x -> x.complaint(60, 0));
        due.row("59 of 60", w -> Twins.full().complaint(59, w), 11, 0, 1, 1, 1, 1);
        due.is("none of none", new RainStreets().complaint(0, 5), -1);
    }

    private static void sumAsked() {
        due.says("Of all: 0 what rained, 1 DRUNK, 2 SPILT, 3 come to the works, 4 in BOWLS, 5 USED, 6 in BARRELS. NONE: none such.");
        Twins.asked(due, "sum", 6, Twins::lively, (x, n) -> (int) x.sum(n));
        Twins.asked(due, "sum of nothing", 6, Twins::empty, (x, n) -> (int) x.sum(n));
        RainStreets x = withLots(0, 0);
        x.corner(1, 100, 0, 0);
        x.roof(1, 0, 3, 7);
        x.rain(11);
        x.storm();
        // 110 at the first: 50 go in, 20 are drunk, 20 are carried; at the second 26 more of the roof, 7 stay in its barrel.
        due.row("of a storm", x::sum, 264, 40, 40 + 66, 51, 60, 0, 7, -1);
        x.pass(1);
        due.row("of a day", x::sum, 264, 100, 106, 51, 0, 5, 2, -1);
    }

    private static void countAsked() {
        due.says("10 open ones, 11 BEDS without PLANTS, 12 bytes on the tape. NONE for others.");
        Twins.asked(due, "count", 12, Twins::lively, (x, n) -> x.count(n));
        Twins.asked(due, "count of nothing", 12, Twins::empty, (x, n) -> x.count(n));
    }

    private static void countBounds() {
        due.says("0 TODAY, 1 corners, 2 ROOFS, 3 BEDS, 4 PARKING of corners with BEDS, 5 minutes of the storm, 6 TOLD storms, 7 RULES, 8 LOOKS, 9 COMPLAINTS");
        due.row("as many as there may be", w -> Twins.full().count(w), 1, 12, 30, 2, 2, 30, 40, 10, 0, 60, 48, 0, 700);
        due.row("some", w -> Twins.lively().count(w), 3, 4, 3, 3, 13, 3, 2, 1, 2, 3, 2, 0, 20);
        RainStreets x = withLots(0, 1, 2);
        Due.ruled(x, "salt 0;");
        x.treat(0, 0);
        x.treat(2, 0);
        due.is("none without plants", x.count(11), 0);
        x.pass(61);
        due.is("two without plants", x.count(11), 2);
        due.is("all are beds still", x.count(3), 3);
        due.is("their parking too", x.count(4), 3);
    }
}
