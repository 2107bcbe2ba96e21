import java.util.ArrayList;
import java.util.Arrays;

/** Streets that let rain in: corners with roofs and sunk beds, storms by minutes, days, and rules told by texts. */
public final class RainStreets {
    /** There is none. */
    public static final int NONE = -1;

    private static final int MOST_CORNERS = 12;
    private static final int MOST_ROOFS = 30;
    private static final int MOST_MINUTES = 30;
    private static final int MOST_STORMS = 40;
    private static final int MOST_COMPLAINTS = 60;
    private static final int MOST_LAWS = 10;
    private static final int MOST_STATEMENTS = 24;
    private static final int MOST_BYTES = 700;
    private static final int LOTS = 10;
    private static final int NEIGHBOURS = 10;
    private static final int OWNERS = 20;
    private static final int CREW = 10;
    private static final int GRADES = 4;
    private static final int KINDS = 4;
    private static final int LAST_DAY = 3649;
    private static final int YEAR = 365;
    private static final int YEARS = 10;
    private static final int THAW = 60;
    private static final int WET_BED = 2;
    private static final int NEW_BOWL = 100;
    private static final int BYTES_FED = 20;

    // Where a law keeps its numbers: in the order in which law() is asked for them.
    private static final int CLOG = 0;
    private static final int LEAVES_FROM = 1;
    private static final int LEAVES_TO = 2;
    private static final int OWE = 3;
    private static final int PARKING = 4;
    private static final int SALT = 5;
    private static final int STAND = 6;
    private static final int FEE = 7;
    private static final int CREDIT = 8;
    private static final int FEE_BED = 9;
    private static final int COST = 10;
    private static final int COST_BOWL = 11;
    private static final int DOUBT = 12;
    private static final int LOOK_FROM = 13;
    private static final int LOOK_TO = 14;
    private static final int LAW_NUMBERS = 21;
    private static final int[] BARE = {
        2, 250, 320, 3, 20, 30, 3, 5, 2, 10, 50, 1, 10, 80, 100, 50, 80, 20, 50, 0, 20
    };

    // Where the sums that only grow are kept: as sum() is asked for them.
    private static final int RAINED = 0;
    private static final int DRUNK = 1;
    private static final int SPILT = 2;
    private static final int TO_WORKS = 3;
    private static final int USED = 5;
    private static final int SUMS = 7;

    private final ArrayList<Corner> corners = new ArrayList<Corner>();
    private final ArrayList<Roof> roofs = new ArrayList<Roof>();
    private final ArrayList<ToldStorm> storms = new ArrayList<ToldStorm>();
    private final ArrayList<Complaint> complaints = new ArrayList<Complaint>();
    private final ArrayList<Law> laws = new ArrayList<Law>();
    private final Law bare = new Law(0, NONE);
    private final Tape tape = new Tape();
    private final Flow flow = new Flow();
    private final int[] lots = new int[LOTS];
    private final int[] minutes = new int[MOST_MINUTES];
    private final int[] owed = new int[NEIGHBOURS];
    private final int[][] kept = new int[NEIGHBOURS][YEARS];
    private final int[] gains = new int[MOST_CORNERS];
    private final long[] sums = new long[SUMS];
    private int minuteCount;
    private int today;
    private int looks;
    private int latestFault = NONE;

    /** No corners and no rules; no storm is told. */
    public RainStreets() {
        Arrays.fill(lots, 20);
    }

    // ---- corners, roofs, lots and beds ----

    public int corner(int area, int pipe, int parking, int cellar) {
        boolean asTold = within(area, 1, 100) && within(pipe, 1, 500)
            && within(parking, 0, 9) && within(cellar, 0, 500);
        if (!asTold || corners.size() >= MOST_CORNERS) {
            return NONE;
        }
        corners.add(new Corner(area, pipe, parking, cellar));
        return corners.size() - 1;
    }

    public boolean below(int corner, int to) {
        Corner above = cornerAt(corner);
        if (above == null || to != NONE && !within(to, corner + 1, corners.size() - 1)) {
            return false;
        }
        above.below = to;
        return true;
    }

    public int roof(int corner, int owner, int area, int barrel) {
        boolean asTold = cornerAt(corner) != null && within(owner, 0, OWNERS - 1)
            && within(area, 1, 50) && within(barrel, 0, 200);
        if (!asTold || roofs.size() >= MOST_ROOFS) {
            return NONE;
        }
        roofs.add(new Roof(corner, owner, area, barrel));
        return roofs.size() - 1;
    }

    public boolean lot(int lot, int drinks) {
        if (!within(lot, 0, LOTS - 1) || !within(drinks, 1, 100)) {
            return false;
        }
        lots[lot] = drinks;
        return true;
    }

    public boolean bed(int corner, int lot, int bowl, boolean tree) {
        Corner place = cornerAt(corner);
        if (place == null || place.bed != null || !within(lot, 0, LOTS - 1) || !within(bowl, 1, 500)) {
            return false;
        }
        if (parkingOfBeds() + place.parking > lawOn(today).value(PARKING)) {
            return false;
        }
        place.bed = new Bed(lot, bowl, tree, today);
        return true;
    }

    public boolean care(int corner, int by) {
        Bed bed = bedAt(corner);
        return bed != null && bed.caredBy(by, today);
    }

    public boolean treat(int corner, int what) {
        Bed bed = bedAt(corner);
        if (bed == null || !within(what, 0, 1)) {
            return false;
        }
        if (what == 0) {
            bed.salt = Math.min(100, bed.salt + 10);
            return true;
        }
        if (bed.plants) {
            return false;
        }
        bed.plants = true;
        return true;
    }

    public boolean prove(int roof) {
        Roof r = roofAt(roof);
        if (r == null || r.barrel == 0) {
            return false;
        }
        r.proveIn(today / YEAR);
        return true;
    }

    public int told(int corner, int what) {
        Corner c = cornerAt(corner);
        if (c == null) {
            return NONE;
        }
        switch (what) {
            case 0: return c.area;
            case 1: return c.pipe;
            case 2: return c.parking;
            case 3: return c.cellar;
            case 4: return c.below;
            case 5: return c.bed == null ? 0 : 1;
            case 6: return c.spilt;
            case 7: return c.most;
            case 8: return c.wet;
            default: return NONE;
        }
    }

    public int bedOf(int corner, int what) {
        Bed bed = bedAt(corner);
        if (bed == null) {
            return NONE;
        }
        switch (what) {
            case 0: return bed.lot;
            case 1: return bed.bowl;
            case 2: return bed.tree ? 1 : 0;
            case 3: return bed.made;
            case 4: return bed.clog;
            case 5: return bed.leaves;
            case 6: return bed.salt;
            case 7: return bed.plants ? 1 : 0;
            case 8: return bed.water;
            case 9: return bed.stands;
            case 10: return bed.drink(lots);
            case 11: return bed.grade;
            case 12: return drinkByLook(bed, LOOK_FROM);
            case 13: return drinkByLook(bed, LOOK_TO);
            default: return NONE;
        }
    }

    public int roofOf(int roof, int what) {
        Roof r = roofAt(roof);
        if (r == null) {
            return NONE;
        }
        switch (what) {
            case 0: return r.corner;
            case 1: return r.owner;
            case 2: return r.area;
            case 3: return r.barrel;
            case 4: return r.water;
            case 5: return r.lastProved;
            default: return NONE;
        }
    }

    private Corner cornerAt(int corner) {
        return within(corner, 0, corners.size() - 1) ? corners.get(corner) : null;
    }

    private Bed bedAt(int corner) {
        Corner c = cornerAt(corner);
        return c == null ? null : c.bed;
    }

    private Roof roofAt(int roof) {
        return within(roof, 0, roofs.size() - 1) ? roofs.get(roof) : null;
    }

    private int parkingOfBeds() {
        return parkingWith(0);
    }

    /** The parking of the corners with beds and of those of a set. */
    private int parkingWith(int set) {
        int parking = 0;
        for (int c = 0; c < corners.size(); c++) {
            Corner corner = corners.get(c);
            if (corner.bed != null || holds(set, c)) {
                parking += corner.parking;
            }
        }
        return parking;
    }

    private int drinkByLook(Bed bed, int edge) {
        if (bed.grade == NONE) {
            return NONE;
        }
        return bed.fullDrink(lots) * lawOn(today).value(edge + 2 * bed.grade) / 100;
    }

    // ---- days ----

    public int pass(int n) {
        if (!within(n, 1, 100) || today + n > LAST_DAY) {
            return NONE;
        }
        for (int i = 0; i < n; i++) {
            goBy(lawOn(today));
            today++;
        }
        return today;
    }

    private void goBy(Law law) {
        int dayOfYear = today % YEAR;
        for (int c = 0; c < corners.size(); c++) {
            Bed bed = corners.get(c).bed;
            if (bed != null) {
                bed.clogUp(law);
                bed.shedLeaves(law, dayOfYear);
                sums[DRUNK] += bed.drinkForADay(lots);
                if (bed.standsTooLong(law)) {
                    tellComplaint(c, WET_BED);
                }
                bed.meetThaw(law, dayOfYear);
            }
        }
        for (int r = 0; r < roofs.size(); r++) {
            sums[USED] += roofs.get(r).give();
        }
        for (int t = 0; t < law.turns.size(); t++) {
            settle(law.turns.get(t), law.value(OWE));
        }
    }

    private void settle(Turn turn, int owe) {
        Bed bed = bedAt(turn.corner);
        int year = today / YEAR;
        if (bed == null || !turn.fallsOn(today)) {
            return;
        }
        if (!within(turn.neighbour, 0, NEIGHBOURS - 1) || !within(year, 0, YEARS - 1)) {
            return;
        }
        if (bed.wasCaredBy(turn.neighbour, today)) {
            kept[turn.neighbour][year]++;
        } else {
            owed[turn.neighbour] += owe;
        }
    }

    public int neighbour(int neighbour, int what) {
        if (!within(neighbour, 0, NEIGHBOURS - 1) || !within(what, 0, 1)) {
            return NONE;
        }
        if (what == 0) {
            return owed[neighbour];
        }
        int ever = 0;
        for (int year = 0; year < YEARS; year++) {
            ever += kept[neighbour][year];
        }
        return ever;
    }

    public int turn(int neighbour, int corner, int day) {
        if (!within(neighbour, 0, NEIGHBOURS - 1) || cornerAt(corner) == null || !within(day, 0, LAST_DAY)) {
            return NONE;
        }
        Law law = lawOn(day);
        for (int t = 0; t < law.turns.size(); t++) {
            Turn turn = law.turns.get(t);
            if (turn.neighbour == neighbour && turn.corner == corner && turn.fallsOn(day)) {
                return 1;
            }
        }
        return 0;
    }

    public int fee(int owner, int year) {
        if (!within(owner, 0, OWNERS - 1) || !within(year, 0, YEARS - 1)) {
            return NONE;
        }
        Law law = lawOn(year * YEAR + YEAR - 1);
        int fee = 0;
        for (int r = 0; r < roofs.size(); r++) {
            Roof roof = roofs.get(r);
            if (roof.owner == owner) {
                fee += law.value(FEE) * roof.area;
                fee -= roof.wasProvedIn(year) ? law.value(CREDIT) * roof.barrel : 0;
            }
        }
        if (owner < NEIGHBOURS) {
            fee -= law.value(FEE_BED) * kept[owner][year];
        }
        return Math.max(0, fee);
    }

    /** The crew's best set; its sum, the set or its hours. */
    public int crew(int hours, int what) {
        if (!within(hours, 0, 60) || !within(what, 0, 2)) {
            return NONE;
        }
        weighGains();
        int best = 0;
        int most = 0;
        // Corners where nothing is gained never come in: the set without them is a lesser number and needs no more hours.
        for (int set = 1; set < 1 << corners.size(); set++) {
            int gain = gainOf(set);
            if (gain > most && hoursFor(set) <= hours) {
                most = gain;
                best = set;
            }
        }
        if (what == 0) {
            return most;
        }
        return what == 1 ? best : hoursFor(best);
    }

    private void weighGains() {
        for (int c = 0; c < corners.size() && c < gains.length; c++) {
            Bed bed = corners.get(c).bed;
            gains[c] = bed == null ? 0 : bed.gainByCare(lots);
        }
    }

    private int gainOf(int set) {
        int gain = 0;
        for (int c = 0; c < corners.size() && c < gains.length; c++) {
            gain += holds(set, c) ? gains[c] : 0;
        }
        return gain;
    }

    private int hoursFor(int set) {
        int last = 0;
        for (int c = 0; c < corners.size(); c++) {
            last = holds(set, c) ? c : last;
        }
        return last + 2 * Integer.bitCount(set);
    }

    // ---- storms ----

    public int rain(int much) {
        if (!within(much, 0, 50) || minuteCount >= MOST_MINUTES) {
            return NONE;
        }
        minutes[minuteCount] = much;
        minuteCount++;
        return minuteCount;
    }

    public int clear() {
        int gone = minuteCount;
        minuteCount = 0;
        return gone;
    }

    public int storm() {
        if (storms.size() >= MOST_STORMS) {
            return NONE;
        }
        prepareFlow();
        flow.run(0);
        for (int c = 0; c < corners.size() && c < flow.nodes.size(); c++) {
            sums[DRUNK] += corners.get(c).takeOver(flow.nodes.get(c));
        }
        for (int r = 0; r < roofs.size(); r++) {
            roofs.get(r).water = flow.barrelAfter(r);
        }
        ToldStorm storm = new ToldStorm(today, whatRains(), flow);
        sums[RAINED] += storm.rained;
        sums[SPILT] += storm.spilt;
        sums[TO_WORKS] += flow.works;
        storms.add(storm);
        return storms.size() - 1;
    }

    private void prepareFlow() {
        flow.lieOver(corners, lots);
        flow.letIn(roofs, minutes, minuteCount);
    }

    private int whatRains() {
        int area = 0;
        for (int c = 0; c < corners.size(); c++) {
            area += corners.get(c).area;
        }
        for (int r = 0; r < roofs.size(); r++) {
            area += roofs.get(r).area;
        }
        int deep = 0;
        for (int m = 0; m < minuteCount; m++) {
            deep += minutes[m];
        }
        return deep * area;
    }

    public long tried(int set, int what) {
        if (!within(what, 0, 1) || !isFree(set)) {
            return NONE;
        }
        prepareFlow();
        flow.run(set);
        return what == 0 ? flow.spilt() : flow.wet();
    }

    public long best(int k, int coins, int w, int what) {
        boolean asTold = within(k, 0, 4) && within(coins, 0, 99999) && within(w, 0, 10000) && within(what, 0, 4);
        if (!asTold) {
            return NONE;
        }
        int set = bestSet(k, coins, w);
        if (set == NONE) {
            return NONE;
        }
        flow.run(set);
        switch (what) {
            case 0: return flow.weight(w);
            case 1: return set;
            case 2: return costOf(set);
            case 3: return flow.spilt();
            default: return flow.wet();
        }
    }

    /** None where even the beds that are there take more parking than the rules let. */
    private int bestSet(int k, int coins, int w) {
        prepareFlow();
        int parking = lawOn(today).value(PARKING);
        int best = NONE;
        long least = 0;
        for (int set = 0; set < 1 << corners.size(); set++) {
            if (Integer.bitCount(set) > k || costOf(set) > coins || !isFree(set) || parkingWith(set) > parking) {
                continue;
            }
            flow.run(set);
            long weight = flow.weight(w);
            boolean fewer = Integer.bitCount(set) < Integer.bitCount(best);
            if (best == NONE || weight < least || weight == least && fewer) {
                best = set;
                least = weight;
            }
        }
        return best;
    }

    private int costOf(int set) {
        Law law = lawOn(today);
        return Integer.bitCount(set) * (law.value(COST) + law.value(COST_BOWL) * NEW_BOWL);
    }

    /** Whether all of a set are corners, and none has a bed. */
    private boolean isFree(int set) {
        if (!within(set, 0, (1 << corners.size()) - 1)) {
            return false;
        }
        for (int c = 0; c < corners.size(); c++) {
            if (holds(set, c) && corners.get(c).bed != null) {
                return false;
            }
        }
        return true;
    }

    public long helps(int corner, int other) {
        Corner place = cornerAt(corner);
        if (place == null || place.bed != null || cornerAt(other) == null) {
            return NONE;
        }
        prepareFlow();
        flow.run(0);
        int without = flow.spiltAt(other);
        flow.run(1 << corner);
        return without - flow.spiltAt(other);
    }

    public long stormOf(int storm, int what) {
        if (!within(storm, 0, storms.size() - 1)) {
            return NONE;
        }
        ToldStorm s = storms.get(storm);
        switch (what) {
            case 0: return s.day;
            case 1: return s.rained;
            case 2: return s.spilt;
            case 3: return s.wet;
            case 4: return s.most;
            default: return NONE;
        }
    }

    public long compare(int day, int what) {
        if (!within(day, 0, LAST_DAY) || !within(what, 0, 3)) {
            return NONE;
        }
        long doubt = lawOn(today).value(DOUBT);
        int like = 0;
        long ahead = 0;
        long behind = 0;
        for (int s = 0; s < storms.size(); s++) {
            ToldStorm storm = storms.get(s);
            ToldStorm before = storm.day < day ? null : likeAhead(storm, day, doubt);
            if (before != null) {
                like++;
                ahead += before.spilt;
                behind += storm.spilt;
            }
        }
        switch (what) {
            case 0: return like;
            case 1: return ahead;
            case 2: return behind;
            default: return (ahead - behind) * 100 > doubt * ahead ? 1 : 0;
        }
    }

    /** The storm ahead of a day that is most like one behind it; null where none is like enough. */
    private ToldStorm likeAhead(ToldStorm storm, int day, long doubt) {
        ToldStorm nearest = null;
        long least = 0;
        for (int s = 0; s < storms.size(); s++) {
            ToldStorm other = storms.get(s);
            long apart = Math.abs((long) other.rained - storm.rained);
            boolean like = other.day < day && apart * 100 <= doubt * storm.rained;
            if (like && (nearest == null || apart <= least)) {
                nearest = other;
                least = apart;
            }
        }
        return nearest;
    }

    // ---- looks and complaints ----

    public int look(int corner, int grade) {
        Bed bed = bedAt(corner);
        if (bed == null || !within(grade, 0, GRADES - 1)) {
            return NONE;
        }
        bed.grade = grade;
        looks++;
        return looks;
    }

    public int worst(int what) {
        int lot = worstLot();
        if (lot == NONE) {
            return NONE;
        }
        switch (what) {
            case 0: return lot;
            case 1: return gradesOf(lot);
            case 2: return looksOf(lot);
            default: return NONE;
        }
    }

    private int worstLot() {
        int worst = NONE;
        for (int lot = 0; lot < LOTS; lot++) {
            // Means are compared crosswise, so that nothing is cut.
            if (looksOf(lot) >= 2
                && (worst == NONE || gradesOf(lot) * looksOf(worst) > gradesOf(worst) * looksOf(lot))) {
                worst = lot;
            }
        }
        return worst;
    }

    private int looksOf(int lot) {
        int many = 0;
        for (int c = 0; c < corners.size(); c++) {
            Bed bed = corners.get(c).bed;
            many += bed != null && bed.lot == lot && bed.grade != NONE ? 1 : 0;
        }
        return many;
    }

    private int gradesOf(int lot) {
        int added = 0;
        for (int c = 0; c < corners.size(); c++) {
            Bed bed = corners.get(c).bed;
            added += bed != null && bed.lot == lot && bed.grade != NONE ? bed.grade : 0;
        }
        return added;
    }

    public int complain(int corner, int kind) {
        if (cornerAt(corner) == null || !within(kind, 0, KINDS - 1)) {
            return NONE;
        }
        return tellComplaint(corner, kind);
    }

    private int tellComplaint(int corner, int kind) {
        for (int i = 0; i < complaints.size(); i++) {
            if (complaints.get(i).joins(corner, kind, today)) {
                return i;
            }
        }
        if (complaints.size() >= MOST_COMPLAINTS) {
            return NONE;
        }
        complaints.add(new Complaint(corner, kind, today));
        return complaints.size() - 1;
    }

    public boolean close(int complaint) {
        if (!within(complaint, 0, complaints.size() - 1) || !complaints.get(complaint).open) {
            return false;
        }
        complaints.get(complaint).open = false;
        return true;
    }

    public int complaint(int complaint, int what) {
        if (!within(complaint, 0, complaints.size() - 1)) {
            return NONE;
        }
        Complaint c = complaints.get(complaint);
        switch (what) {
            case 0: return c.corner;
            case 1: return c.kind;
            case 2: return c.day;
            case 3: return c.lastDay;
            case 4: return c.often;
            case 5: return c.open ? 1 : 0;
            default: return NONE;
        }
    }

    // ---- rules ----

    public int feed(int a, int b, int c, int d, int e) {
        if (tape.length + BYTES_FED > MOST_BYTES) {
            return NONE;
        }
        tape.add(a);
        tape.add(b);
        tape.add(c);
        tape.add(d);
        tape.add(e);
        return tape.length;
    }

    public int rules(int n) {
        if (!within(n, 0, tape.length)) {
            return -2;
        }
        if (laws.size() >= MOST_LAWS) {
            return -3;
        }
        Law law = new Law(today, laws.size());
        latestFault = tape.read(n, law);
        if (latestFault != NONE) {
            return NONE;
        }
        laws.add(law);
        return law.number;
    }

    public int fault() {
        return latestFault;
    }

    public int law(int day, int what) {
        if (!within(day, 0, LAST_DAY) || !within(what, 0, LAW_NUMBERS + 1)) {
            return NONE;
        }
        Law law = lawOn(day);
        if (what < LAW_NUMBERS) {
            return law.value(what);
        }
        return what == LAW_NUMBERS ? law.turns.size() : law.number;
    }

    private Law lawOn(int day) {
        for (int i = laws.size() - 1; i >= 0; i--) {
            if (laws.get(i).since <= day) {
                return laws.get(i);
            }
        }
        return bare;
    }

    // ---- sums and counts ----

    public long sum(int what) {
        if (!within(what, 0, SUMS - 1)) {
            return NONE;
        }
        if (what == 4) {
            return inBowls();
        }
        return what == 6 ? inBarrels() : sums[what];
    }

    private long inBowls() {
        long water = 0;
        for (int c = 0; c < corners.size(); c++) {
            Bed bed = corners.get(c).bed;
            water += bed == null ? 0 : bed.water;
        }
        return water;
    }

    private long inBarrels() {
        long water = 0;
        for (int r = 0; r < roofs.size(); r++) {
            water += roofs.get(r).water;
        }
        return water;
    }

    public int count(int what) {
        switch (what) {
            case 0: return today;
            case 1: return corners.size();
            case 2: return roofs.size();
            case 3: return countBeds(false);
            case 4: return parkingOfBeds();
            case 5: return minuteCount;
            case 6: return storms.size();
            case 7: return laws.size();
            case 8: return looks;
            case 9: return complaints.size();
            case 10: return countOpen();
            case 11: return countBeds(true);
            case 12: return tape.length;
            default: return NONE;
        }
    }

    private int countBeds(boolean withoutPlants) {
        int many = 0;
        for (int c = 0; c < corners.size(); c++) {
            Bed bed = corners.get(c).bed;
            many += bed != null && !(withoutPlants && bed.plants) ? 1 : 0;
        }
        return many;
    }

    private int countOpen() {
        int many = 0;
        for (int i = 0; i < complaints.size(); i++) {
            many += complaints.get(i).open ? 1 : 0;
        }
        return many;
    }

    private static boolean within(int value, int least, int most) {
        return value >= least && value <= most;
    }

    private static boolean holds(int set, int corner) {
        return (set >> corner & 1) == 1;
    }

    private static final class Corner {
        final int area;
        final int pipe;
        final int parking;
        final int cellar;
        int below = NONE;
        Bed bed;
        // Of the latest storm.
        int spilt;
        int most;
        int wet;

        Corner(int area, int pipe, int parking, int cellar) {
            this.area = area;
            this.pipe = pipe;
            this.parking = parking;
            this.cellar = cellar;
        }

        /** Takes over what a storm left here: what the bed drank, with what stood in its bowl ahead of the storm. */
        int takeOver(Node node) {
            spilt = node.spilt;
            most = node.most;
            wet = node.wet;
            if (bed == null) {
                return 0;
            }
            int drunk = bed.water + node.drunk;
            bed.water = node.water;
            return drunk;
        }
    }

    private static final class Bed {
        final int lot;
        final int bowl;
        final boolean tree;
        final int made;
        int clog;
        int leaves;
        int salt;
        boolean plants = true;
        int water;
        int stands;
        int grade = NONE;
        private final int[] caredOn = new int[NEIGHBOURS + 1];

        Bed(int lot, int bowl, boolean tree, int made) {
            this.lot = lot;
            this.bowl = bowl;
            this.tree = tree;
            this.made = made;
            Arrays.fill(caredOn, NONE);
        }

        int fullDrink(int[] lots) {
            return lot >= 0 && lot < lots.length ? lots[lot] : 0;
        }

        int drink(int[] lots) {
            return fullDrink(lots) * (100 - clog) / 100;
        }

        int gainByCare(int[] lots) {
            return fullDrink(lots) * (100 - clogCaredFor()) / 100 - drink(lots);
        }

        private int clogCaredFor() {
            return Math.max(0, clog - 30);
        }

        /** False, doing nothing, where there is no such carer or they did that day. */
        boolean caredBy(int carer, int day) {
            if (!within(carer, 0, CREW) || wasCaredBy(carer, day)) {
                return false;
            }
            caredOn[carer] = day;
            clog = clogCaredFor();
            leaves = 0;
            return true;
        }

        boolean wasCaredBy(int carer, int day) {
            return within(carer, 0, CREW) && caredOn[carer] == day;
        }

        void clogUp(Law law) {
            int more = tree ? law.value(CLOG) / 2 : law.value(CLOG);
            clog = Math.min(100, clog + (plants ? more : 2 * more));
        }

        void shedLeaves(Law law, int dayOfYear) {
            if (law.leavesFallOn(dayOfYear)) {
                leaves = Math.min(10, leaves + (tree ? 2 : 1));
            }
        }

        int drinkForADay(int[] lots) {
            int drunk = Math.min(water, 20 * drink(lots));
            water -= drunk;
            stands = water > 0 ? stands + 1 : 0;
            return drunk;
        }

        boolean standsTooLong(Law law) {
            return stands == law.value(STAND) + 1;
        }

        void meetThaw(Law law, int dayOfYear) {
            if (dayOfYear == THAW) {
                plants = plants && salt <= law.value(SALT);
                salt = 0;
            }
        }
    }

    private static final class Roof {
        final int corner;
        final int owner;
        final int area;
        final int barrel;
        int water;
        int lastProved = NONE;
        private int yearsProved;

        Roof(int corner, int owner, int area, int barrel) {
            this.corner = corner;
            this.owner = owner;
            this.area = area;
            this.barrel = barrel;
        }

        void proveIn(int year) {
            lastProved = year;
            yearsProved |= 1 << year;
        }

        boolean wasProvedIn(int year) {
            return holds(yearsProved, year);
        }

        int give() {
            int given = Math.min(5, water);
            water -= given;
            return given;
        }
    }

    private static final class ToldStorm {
        final int day;
        final int rained;
        final int spilt;
        final int wet;
        final int most;

        ToldStorm(int day, int rained, Flow flow) {
            this.day = day;
            this.rained = rained;
            this.spilt = flow.spilt();
            this.wet = flow.wet();
            this.most = flow.worksMost;
        }
    }

    private static final class Complaint {
        final int corner;
        final int kind;
        final int day;
        int lastDay;
        int often = 1;
        boolean open = true;

        Complaint(int corner, int kind, int day) {
            this.corner = corner;
            this.kind = kind;
            this.day = day;
            this.lastDay = day;
        }

        /** Joins with one told on a day, if it can. */
        boolean joins(int otherCorner, int otherKind, int otherDay) {
            if (!open || corner != otherCorner || kind != otherKind || otherDay - lastDay > 7) {
                return false;
            }
            lastDay = otherDay;
            often++;
            return true;
        }
    }

    /** A corner while a storm runs through it: the bed there, or one that is tried. */
    private static final class Node {
        int pipe;
        int cellar;
        Node below;
        int bowl;
        int drink;
        int open;
        boolean anew;
        int water;
        int fromStreet;
        int fromPipes;
        int toWorks;
        int drunk;
        int spilt;
        int most;
        int wet;

        void lieAt(Corner corner, Node nodeBelow, int[] lots) {
            pipe = corner.pipe;
            cellar = corner.cellar;
            below = nodeBelow;
            bowl = corner.bed == null ? 0 : corner.bed.bowl;
            drink = corner.bed == null ? 0 : corner.bed.drink(lots);
            open = corner.bed == null ? 0 : 10 - corner.bed.leaves;
        }

        void start(boolean withNewBed) {
            anew = withNewBed;
            water = 0;
            fromStreet = 0;
            fromPipes = 0;
            drunk = 0;
            spilt = 0;
            most = 0;
            wet = 0;
        }

        /** What the bed takes in of what comes, and drinks; how much it took. */
        private int soak(int comes, int newDrink) {
            int mayGoIn = anew ? comes : comes * open / 10;
            int taken = Math.min(mayGoIn, (anew ? NEW_BOWL : bowl) - water);
            int drunkNow = Math.min(water + taken, anew ? newDrink : drink);
            water += taken - drunkNow;
            drunk += drunkNow;
            return taken;
        }

        void minute(int own, int newDrink) {
            int comes = own + fromStreet;
            int into = comes - soak(comes, newDrink) + fromPipes;
            int carried = Math.min(into, pipe);
            int beyond = into - carried;
            int runsOn = below == null ? 0 : beyond / 2;
            if (below != null) {
                below.fromPipes += carried;
                below.fromStreet += runsOn;
            }
            toWorks = below == null ? carried : 0;
            spilt += beyond - runsOn;
            most = Math.max(most, carried);
            wet += cellar > 0 && beyond > cellar ? 1 : 0;
            fromStreet = 0;
            fromPipes = 0;
        }
    }

    /** One storm through all corners. What it tells is of its latest run; the streets stay as they are. */
    private static final class Flow {
        final ArrayList<Node> nodes = new ArrayList<Node>();
        int works;
        int worksMost;
        private final int[] own = new int[MOST_MINUTES * MOST_CORNERS];
        private final int[] barrels = new int[MOST_ROOFS];
        private final int[] areas = new int[MOST_CORNERS];
        private int count;
        private int minuteCount;
        private int newDrink;

        Flow() {
            for (int c = 0; c < MOST_CORNERS; c++) {
                nodes.add(new Node());
            }
        }

        void lieOver(ArrayList<Corner> corners, int[] lots) {
            count = Math.min(corners.size(), MOST_CORNERS);
            newDrink = lots.length == 0 ? 0 : lots[0];
            for (int c = 0; c < count; c++) {
                Corner corner = corners.get(c);
                Node below = within(corner.below, c + 1, count - 1) ? nodes.get(corner.below) : null;
                nodes.get(c).lieAt(corner, below, lots);
                areas[c] = corner.area;
            }
        }

        /** What rain and roofs bring to corners by minutes: no bed changes it, so it's reckoned once for all runs. */
        void letIn(ArrayList<Roof> roofs, int[] minutes, int many) {
            minuteCount = Math.min(many, Math.min(minutes.length, MOST_MINUTES));
            for (int m = 0; m < minuteCount; m++) {
                for (int c = 0; c < count; c++) {
                    own[m * MOST_CORNERS + c] = minutes[m] * areas[c];
                }
            }
            for (int r = 0; r < roofs.size() && r < MOST_ROOFS; r++) {
                barrels[r] = letInFrom(roofs.get(r), minutes);
            }
        }

        /** What the barrel has after the storm. */
        private int letInFrom(Roof roof, int[] minutes) {
            int water = roof.water;
            if (!within(roof.corner, 0, count - 1)) {
                return water;
            }
            for (int m = 0; m < minuteCount && m < minutes.length; m++) {
                int falls = minutes[m] * roof.area;
                int taken = Math.min(falls, roof.barrel - water);
                water += taken;
                own[m * MOST_CORNERS + roof.corner] += falls - taken;
            }
            return water;
        }

        void run(int set) {
            works = 0;
            worksMost = 0;
            for (int c = 0; c < count; c++) {
                nodes.get(c).start(holds(set, c));
            }
            for (int m = 0; m < minuteCount; m++) {
                int toWorks = 0;
                for (int c = 0; c < count; c++) {
                    Node node = nodes.get(c);
                    node.minute(own[m * MOST_CORNERS + c], newDrink);
                    toWorks += node.toWorks;
                }
                works += toWorks;
                worksMost = Math.max(worksMost, toWorks);
            }
        }

        int barrelAfter(int roof) {
            return roof >= 0 && roof < barrels.length ? barrels[roof] : 0;
        }

        int spiltAt(int corner) {
            return within(corner, 0, count - 1) ? nodes.get(corner).spilt : 0;
        }

        int spilt() {
            int spilt = 0;
            for (int c = 0; c < count; c++) {
                spilt += nodes.get(c).spilt;
            }
            return spilt;
        }

        int wet() {
            int wet = 0;
            for (int c = 0; c < count; c++) {
                wet += nodes.get(c).wet;
            }
            return wet;
        }

        long weight(int w) {
            return (long) w * wet() + spilt();
        }
    }

    private static final class Turn {
        final int neighbour;
        final int corner;
        final int every;
        final int from;

        Turn(int neighbour, int corner, int every, int from) {
            this.neighbour = neighbour;
            this.corner = corner;
            this.every = every;
            this.from = from;
        }

        boolean fallsOn(int day) {
            return day >= from && every > 0 && (day - from) % every == 0;
        }
    }

    /** The rules in force from a day on; bare as it's made. */
    private static final class Law {
        final int since;
        final int number;
        final ArrayList<Turn> turns = new ArrayList<Turn>();
        private final int[] numbers = new int[LAW_NUMBERS];

        Law(int since, int number) {
            this.since = since;
            this.number = number;
            for (int i = 0; i < numbers.length && i < BARE.length; i++) {
                numbers[i] = BARE[i];
            }
        }

        int value(int place) {
            return place >= 0 && place < numbers.length ? numbers[place] : 0;
        }

        void put(int place, int number) {
            if (place >= 0 && place < numbers.length) {
                numbers[place] = number;
            }
        }

        boolean leavesFallOn(int dayOfYear) {
            boolean behindFrom = dayOfYear >= value(LEAVES_FROM);
            boolean aheadOfTo = dayOfYear <= value(LEAVES_TO);
            return value(LEAVES_FROM) <= value(LEAVES_TO) ? behindFrom && aheadOfTo : behindFrom || aheadOfTo;
        }
    }

    /** The bytes fed, and the reading of rules from them, token by token. */
    private static final class Tape {
        private static final int SIGN = 0;
        private static final int BLANK = 1;
        private static final int LETTER = 2;
        private static final int DIGIT = 3;

        int length;
        private final int[] bytes = new int[MOST_BYTES];
        private int end;
        private int tokenStart;
        private int tokenEnd;
        private int fault;

        void add(int number) {
            for (int shift = 24; shift >= 0; shift -= 8) {
                if (length < bytes.length) {
                    bytes[length] = number >> shift & 255;
                    length++;
                }
            }
        }

        /** Reads the first n bytes into a bare law and empties the tape; the fault's place, or none. */
        int read(int n, Law law) {
            end = n;
            fault = NONE;
            tokenEnd = 0;
            step();
            for (int s = 0; s <= MOST_STATEMENTS && fault == NONE && tokenStart < end; s++) {
                if (s == MOST_STATEMENTS) {
                    fault = tokenStart;
                } else {
                    readStatement(law);
                }
            }
            length = 0;
            return fault;
        }

        private void readStatement(Law law) {
            if (skips("turn")) {
                readTurn(law);
            } else if (skips("look")) {
                readLook(law);
            } else if (skips("clog")) {
                readNumber(law, CLOG);
            } else if (skips("leaves")) {
                readNumber(law, LEAVES_FROM);
                need("to");
                readNumber(law, LEAVES_TO);
            } else if (skips("owe")) {
                readNumber(law, OWE);
            } else if (skips("parking")) {
                readNumber(law, PARKING);
            } else if (skips("salt")) {
                readNumber(law, SALT);
            } else if (skips("stand")) {
                readNumber(law, STAND);
            } else if (skips("fee")) {
                readNumber(law, FEE);
                need("credit");
                readNumber(law, CREDIT);
                need("bed");
                readNumber(law, FEE_BED);
            } else if (skips("cost")) {
                readNumber(law, COST);
                need("bowl");
                readNumber(law, COST_BOWL);
            } else if (skips("doubt")) {
                readNumber(law, DOUBT);
            } else {
                fault = tokenStart;
            }
            need(";");
        }

        private void readTurn(Law law) {
            int neighbour = number(0, 9999);
            need("at");
            int corner = number(0, 9999);
            need("every");
            int every = number(1, 9999);
            need("from");
            int from = number(0, 9999);
            law.turns.add(new Turn(neighbour, corner, every, from));
        }

        private void readLook(Law law) {
            int grade = number(0, GRADES - 1);
            need("from");
            law.put(LOOK_FROM + 2 * grade, number(0, 9999));
            need("to");
            law.put(LOOK_TO + 2 * grade, number(0, 9999));
        }

        private void readNumber(Law law, int place) {
            law.put(place, number(0, 9999));
        }

        /** Behind a fault nothing more is read: the law that it was for is thrown away. */
        private int number(int least, int most) {
            if (fault != NONE) {
                return least;
            }
            boolean isNumber = kindOf(byteAt(tokenStart)) == DIGIT && tokenEnd - tokenStart <= 4;
            int value = isNumber ? valueOfToken() : NONE;
            if (!within(value, least, most)) {
                fault = tokenStart;
                return least;
            }
            step();
            return value;
        }

        private int valueOfToken() {
            int value = 0;
            for (int i = tokenStart; i < tokenEnd; i++) {
                value = 10 * value + byteAt(i) - '0';
            }
            return value;
        }

        private void need(String token) {
            if (fault != NONE) {
                return;
            }
            if (isToken(token)) {
                step();
            } else {
                fault = tokenStart;
            }
        }

        private boolean skips(String token) {
            boolean there = isToken(token);
            if (there) {
                step();
            }
            return there;
        }

        private boolean isToken(String token) {
            if (tokenEnd - tokenStart != token.length()) {
                return false;
            }
            for (int i = 0; i < token.length(); i++) {
                if (byteAt(tokenStart + i) != token.charAt(i)) {
                    return false;
                }
            }
            return true;
        }

        /** To the next token, or to the text's end where there is none. */
        private void step() {
            tokenStart = tokenEnd;
            while (tokenStart < end && kindOf(byteAt(tokenStart)) == BLANK) {
                tokenStart++;
            }
            int kind = kindOf(byteAt(tokenStart));
            tokenEnd = Math.min(tokenStart + 1, end);
            while (tokenEnd < end && kind != SIGN && kindOf(byteAt(tokenEnd)) == kind) {
                tokenEnd++;
            }
        }

        private int byteAt(int place) {
            return place >= 0 && place < end && place < bytes.length ? bytes[place] : NONE;
        }

        /** A sign stands alone: a semicolon, or what begins no token. */
        private static int kindOf(int b) {
            if (b >= 'a' && b <= 'z') {
                return LETTER;
            }
            if (b >= '0' && b <= '9') {
                return DIGIT;
            }
            return b == ' ' || b == '\n' ? BLANK : SIGN;
        }
    }
}
