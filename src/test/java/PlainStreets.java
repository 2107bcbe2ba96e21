import java.util.ArrayList;
import java.util.Arrays;
import java.util.HashMap;
import java.util.HashSet;
import java.util.List;
import java.util.Map;
import java.util.Set;

/**
 * The document once more, told with the Java library and without thrift: tries are storms on copies, sets are
 * lists, rules are read by patterns. It stands beside the class so that each checks the other.
 */
final class PlainStreets {
    private static final String[] SHAPES = {
        "turn # at # every + from # ;", "clog # ;", "leaves # to # ;", "owe # ;", "parking # ;", "salt # ;",
        "stand # ;", "fee # credit # bed # ;", "cost # bowl # ;", "doubt # ;", "look g from # to # ;"
    };

    static final class Bed {
        int lot, bowl, made, clog, leaves, salt, water, stands, grade = -1;
        boolean tree, plants = true;
        Set<String> cared = new HashSet<>();

        Bed copy() {
            Bed b = new Bed();
            b.lot = lot;
            b.bowl = bowl;
            b.clog = clog;
            b.leaves = leaves;
            b.water = water;
            b.tree = tree;
            return b;
        }
    }

    static final class Place {
        int area, pipe, parking, cellar, below = -1, spilt, most, wet;
        Bed bed;
    }

    static final class House {
        int corner, owner, area, barrel, water;
        List<Integer> proved = new ArrayList<>();
    }

    static final class Rules {
        int since;
        Map<String, int[]> latest = new HashMap<>();
        List<int[]> turns = new ArrayList<>();

        int[] of(String word, int... bare) {
            return latest.getOrDefault(word, bare);
        }

        int[] look(int g) {
            int[][] bare = {{80, 100}, {50, 80}, {20, 50}, {0, 20}};
            return of("look" + g, bare[g]);
        }
    }

    List<Place> places = new ArrayList<>();
    List<House> houses = new ArrayList<>();
    int[] lots = new int[10];
    List<Integer> storm = new ArrayList<>();
    List<long[]> told = new ArrayList<>();
    List<int[]> complaints = new ArrayList<>();
    List<Rules> rules = new ArrayList<>();
    List<Integer> tape = new ArrayList<>();
    List<int[]> kept = new ArrayList<>();
    long[] owes = new long[10];
    int day, looks, fault = -1;
    long rained, drunk, spilt, works, used;

    PlainStreets() {
        Arrays.fill(lots, 20);
    }

    private Rules on(int d) {
        Rules r = new Rules();
        for (Rules each : rules) {
            if (each.since <= d) {
                r = each;
            }
        }
        return r;
    }

    private int now(String word, int... bare) {
        return on(day).of(word, bare)[0];
    }

    private boolean isPlace(int c) {
        return c >= 0 && c < places.size();
    }

    private Bed bedAt(int c) {
        return isPlace(c) ? places.get(c).bed : null;
    }

    private int drink(Bed b) {
        return lots[b.lot] * (100 - b.clog) / 100;
    }

    int corner(int area, int pipe, int parking, int cellar) {
        if (area < 1 || area > 100 || pipe < 1 || pipe > 500 || parking < 0 || parking > 9 || cellar < 0
            || cellar > 500 || places.size() == 12) {
            return -1;
        }
        Place p = new Place();
        p.area = area;
        p.pipe = pipe;
        p.parking = parking;
        p.cellar = cellar;
        places.add(p);
        return places.size() - 1;
    }

    boolean below(int corner, int to) {
        if (!isPlace(corner) || to != -1 && (!isPlace(to) || to <= corner)) {
            return false;
        }
        places.get(corner).below = to;
        return true;
    }

    int roof(int corner, int owner, int area, int barrel) {
        if (!isPlace(corner) || owner < 0 || owner > 19 || area < 1 || area > 50 || barrel < 0 || barrel > 200
            || houses.size() == 30) {
            return -1;
        }
        House h = new House();
        h.corner = corner;
        h.owner = owner;
        h.area = area;
        h.barrel = barrel;
        houses.add(h);
        return houses.size() - 1;
    }

    boolean lot(int lot, int drinks) {
        if (lot < 0 || lot > 9 || drinks < 1 || drinks > 100) {
            return false;
        }
        lots[lot] = drinks;
        return true;
    }

    boolean bed(int corner, int lot, int bowl, boolean tree) {
        if (!isPlace(corner) || bedAt(corner) != null || lot < 0 || lot > 9 || bowl < 1 || bowl > 500
            || count(4) + places.get(corner).parking > now("parking", 20)) {
            return false;
        }
        Bed b = new Bed();
        b.lot = lot;
        b.bowl = bowl;
        b.tree = tree;
        b.made = day;
        places.get(corner).bed = b;
        return true;
    }

    boolean care(int corner, int by) {
        Bed b = bedAt(corner);
        if (b == null || by < 0 || by > 10 || !b.cared.add(by + " on " + day)) {
            return false;
        }
        b.clog = Math.max(0, b.clog - 30);
        b.leaves = 0;
        return true;
    }

    boolean treat(int corner, int what) {
        Bed b = bedAt(corner);
        if (b == null || what != 0 && what != 1 || what == 1 && b.plants) {
            return false;
        }
        if (what == 1) {
            b.plants = true;
        } else {
            b.salt = Math.min(100, b.salt + 10);
        }
        return true;
    }

    int pass(int n) {
        if (n < 1 || n > 100 || day + n > 3649) {
            return -1;
        }
        for (int i = 0; i < n; i++) {
            oneDay();
        }
        return day;
    }

    private void oneDay() {
        Rules r = on(day);
        int ofYear = day % 365;
        int[] leaves = r.of("leaves", 250, 320);
        boolean fall = false;
        // The days from the one to the other, walked along.
        for (int d = leaves[0], i = 0; i < 10000; i++, d++) {
            if (leaves[0] > leaves[1] && d > 364 && d > leaves[0]) {
                d = 0;
            }
            if (d == ofYear) {
                fall = true;
            }
            if (d == leaves[1]) {
                break;
            }
        }
        if (leaves[0] > leaves[1] && leaves[0] > 364) {
            fall = ofYear <= leaves[1];
        }
        for (int c = 0; c < places.size(); c++) {
            Bed b = places.get(c).bed;
            if (b == null) {
                continue;
            }
            int more = r.of("clog", 2)[0];
            if (b.tree) {
                more /= 2;
            }
            if (!b.plants) {
                more += more;
            }
            b.clog = Math.min(100, b.clog + more);
            if (fall) {
                b.leaves = Math.min(10, b.leaves + (b.tree ? 2 : 1));
            }
            int gone = Math.min(b.water, 20 * drink(b));
            b.water -= gone;
            drunk += gone;
            if (b.water == 0) {
                b.stands = 0;
            } else {
                b.stands++;
                if (b.stands == r.of("stand", 3)[0] + 1) {
                    complain(c, 2);
                }
            }
            if (ofYear == 60) {
                if (b.salt > r.of("salt", 30)[0]) {
                    b.plants = false;
                }
                b.salt = 0;
            }
        }
        for (House h : houses) {
            int given = Math.min(5, h.water);
            h.water -= given;
            used += given;
        }
        for (int[] t : r.turns) {
            if (t[0] > 9 || bedAt(t[1]) == null || day < t[3] || (day - t[3]) % t[2] != 0) {
                continue;
            }
            if (bedAt(t[1]).cared.contains(t[0] + " on " + day)) {
                kept.add(new int[] {t[0], day / 365});
            } else {
                owes[t[0]] += r.of("owe", 3)[0];
            }
        }
        day++;
    }

    int rain(int much) {
        if (much < 0 || much > 50 || storm.size() == 30) {
            return -1;
        }
        storm.add(much);
        return storm.size();
    }

    int clear() {
        int many = storm.size();
        storm.clear();
        return many;
    }

    private PlainStreets copy() {
        PlainStreets y = new PlainStreets();
        y.lots = lots.clone();
        y.storm = new ArrayList<>(storm);
        y.day = day;
        for (Place p : places) {
            y.corner(p.area, p.pipe, p.parking, p.cellar);
            y.places.get(y.places.size() - 1).bed = p.bed == null ? null : p.bed.copy();
        }
        for (int c = 0; c < places.size(); c++) {
            y.below(c, places.get(c).below);
        }
        for (House h : houses) {
            y.roof(h.corner, h.owner, h.area, h.barrel);
            y.houses.get(y.houses.size() - 1).water = h.water;
        }
        return y;
    }

    int storm() {
        if (told.size() == 40) {
            return -1;
        }
        for (Place p : places) {
            p.spilt = 0;
            p.most = 0;
            p.wet = 0;
            if (p.bed != null) {
                drunk += p.bed.water;
                p.bed.water = 0;
            }
        }
        long[] t = new long[5];
        t[0] = day;
        for (int much : storm) {
            long ahead = works;
            minute(much, t);
            t[4] = Math.max(t[4], works - ahead);
        }
        rained += t[1];
        spilt += t[2];
        told.add(t);
        return told.size() - 1;
    }

    private void minute(int much, long[] t) {
        int[] street = new int[12];
        int[] pipes = new int[12];
        for (int c = 0; c < places.size(); c++) {
            Place p = places.get(c);
            int comes = street[c] + much * p.area;
            t[1] += much * p.area;
            for (House h : houses) {
                if (h.corner == c) {
                    int falls = much * h.area;
                    t[1] += falls;
                    int keeps = Math.min(h.barrel - h.water, falls);
                    h.water += keeps;
                    comes += falls - keeps;
                }
            }
            if (p.bed != null) {
                int in = Math.min(comes * (10 - p.bed.leaves) / 10, p.bed.bowl - p.bed.water);
                comes -= in;
                p.bed.water += in;
                int gone = Math.min(p.bed.water, drink(p.bed));
                p.bed.water -= gone;
                drunk += gone;
            }
            int all = comes + pipes[c];
            int carried = Math.min(all, p.pipe);
            int beyond = all - carried;
            p.most = Math.max(p.most, carried);
            if (p.cellar > 0 && beyond > p.cellar) {
                p.wet++;
                t[3]++;
            }
            if (p.below == -1) {
                works += carried;
            } else {
                pipes[p.below] += carried;
                street[p.below] += beyond / 2;
                beyond -= beyond / 2;
            }
            p.spilt += beyond;
            t[2] += beyond;
        }
    }

    private PlainStreets tryOut(int set) {
        PlainStreets y = copy();
        for (int c = 0; c < 32; c++) {
            if ((set >>> c & 1) == 1) {
                if (!y.isPlace(c) || y.bedAt(c) != null) {
                    return null;
                }
                Bed b = new Bed();
                b.bowl = 100;
                y.places.get(c).bed = b;
            }
        }
        y.storm();
        return y;
    }

    long tried(int set, int what) {
        PlainStreets y = tryOut(set);
        if (y == null || what < 0 || what > 1) {
            return -1;
        }
        return y.told.get(0)[2 + what];
    }

    long best(int k, int coins, int w, int what) {
        if (k < 0 || k > 4 || coins < 0 || coins > 99999 || w < 0 || w > 10000 || what < 0 || what > 4) {
            return -1;
        }
        int each = now("cost", 50, 1) + 100 * on(day).of("cost", 50, 1)[1];
        long[] best = null;
        for (int many = 0; many <= k; many++) {
            for (int set = 0; set < 1 << places.size(); set++) {
                long cost = (long) many * each;
                if (Integer.bitCount(set) != many || cost > coins) {
                    continue;
                }
                int parking = count(4);
                for (int c = 0; c < places.size(); c++) {
                    parking += (set >> c & 1) * places.get(c).parking;
                }
                if (parking > now("parking", 20)) {
                    continue;
                }
                PlainStreets y = tryOut(set);
                if (y != null) {
                    long spills = y.told.get(0)[2];
                    long wet = y.told.get(0)[3];
                    if (best == null || w * wet + spills < best[0]) {
                        best = new long[] {w * wet + spills, set, cost, spills, wet};
                    }
                }
            }
        }
        return best == null ? -1 : best[what];
    }

    long helps(int corner, int other) {
        if (!isPlace(corner) || !isPlace(other) || bedAt(corner) != null) {
            return -1;
        }
        return tryOut(0).places.get(other).spilt - tryOut(1 << corner).places.get(other).spilt;
    }

    int told(int corner, int what) {
        if (!isPlace(corner) || what < 0 || what > 8) {
            return -1;
        }
        Place p = places.get(corner);
        int hasBed = p.bed == null ? 0 : 1;
        return new int[] {p.area, p.pipe, p.parking, p.cellar, p.below, hasBed, p.spilt, p.most, p.wet}[what];
    }

    int bedOf(int corner, int what) {
        Bed b = bedAt(corner);
        if (b == null || what < 0 || what > 13) {
            return -1;
        }
        int[] span = {-1, -1};
        if (b.grade != -1) {
            span[0] = lots[b.lot] * on(day).look(b.grade)[0] / 100;
            span[1] = lots[b.lot] * on(day).look(b.grade)[1] / 100;
        }
        return new int[] {
            b.lot, b.bowl, b.tree ? 1 : 0, b.made, b.clog, b.leaves, b.salt, b.plants ? 1 : 0, b.water, b.stands,
            drink(b), b.grade, span[0], span[1]
        }[what];
    }

    int roofOf(int roof, int what) {
        if (roof < 0 || roof >= houses.size() || what < 0 || what > 5) {
            return -1;
        }
        House h = houses.get(roof);
        int year = h.proved.isEmpty() ? -1 : h.proved.get(h.proved.size() - 1);
        return new int[] {h.corner, h.owner, h.area, h.barrel, h.water, year}[what];
    }

    boolean prove(int roof) {
        if (roof < 0 || roof >= houses.size() || houses.get(roof).barrel == 0) {
            return false;
        }
        houses.get(roof).proved.add(day / 365);
        return true;
    }

    long stormOf(int i, int what) {
        return i < 0 || i >= told.size() || what < 0 || what > 4 ? -1 : told.get(i)[what];
    }

    long compare(int d, int what) {
        if (d < 0 || d > 3649 || what < 0 || what > 3) {
            return -1;
        }
        long doubt = now("doubt", 10);
        long[] answers = new long[4];
        for (long[] t : told) {
            long[] nearest = null;
            for (long[] s : told) {
                boolean like = 100 * Math.abs(s[1] - t[1]) <= doubt * t[1];
                if (t[0] >= d && s[0] < d && like
                    && (nearest == null || Math.abs(s[1] - t[1]) <= Math.abs(nearest[1] - t[1]))) {
                    nearest = s;
                }
            }
            if (nearest != null) {
                answers[0]++;
                answers[1] += nearest[2];
                answers[2] += t[2];
            }
        }
        answers[3] = 100 * answers[2] < (100 - doubt) * answers[1] ? 1 : 0;
        return answers[what];
    }

    int crew(int hours, int what) {
        if (hours < 0 || hours > 60 || what < 0 || what > 2) {
            return -1;
        }
        int[] best = new int[3];
        for (int set = 1; set < 1 << places.size(); set++) {
            int more = 0;
            int takes = 0;
            boolean beds = true;
            for (int c = 0, at = 0; c < places.size(); c++) {
                if ((set >> c & 1) == 0) {
                    continue;
                }
                Bed b = bedAt(c);
                beds &= b != null;
                if (b != null) {
                    takes += c - at + 2;
                    at = c;
                    more += lots[b.lot] * (100 - Math.max(0, b.clog - 30)) / 100 - drink(b);
                }
            }
            if (beds && takes <= hours && more > best[0]) {
                best = new int[] {more, set, takes};
            }
        }
        return best[what];
    }

    int neighbour(int n, int what) {
        if (n < 0 || n > 9 || what < 0 || what > 1) {
            return -1;
        }
        return what == 0 ? (int) owes[n] : (int) kept.stream().filter(k -> k[0] == n).count();
    }

    int turn(int n, int corner, int d) {
        if (n < 0 || n > 9 || !isPlace(corner) || d < 0 || d > 3649) {
            return -1;
        }
        return on(d).turns.stream().anyMatch(t ->
            t[0] == n && t[1] == corner && d >= t[3] && (d - t[3]) % t[2] == 0) ? 1 : 0;
    }

    int fee(int owner, int year) {
        if (owner < 0 || owner > 19 || year < 0 || year > 9) {
            return -1;
        }
        int[] f = on(365 * year + 364).of("fee", 5, 2, 10);
        long fee = 0;
        for (House h : houses) {
            if (h.owner == owner) {
                fee += f[0] * h.area - (h.proved.contains(year) ? f[1] * h.barrel : 0);
            }
        }
        fee -= f[2] * kept.stream().filter(k -> k[0] == owner && k[1] == year).count();
        return (int) Math.max(0, fee);
    }

    int look(int corner, int grade) {
        if (bedAt(corner) == null || grade < 0 || grade > 3) {
            return -1;
        }
        bedAt(corner).grade = grade;
        return ++looks;
    }

    int worst(int what) {
        int[] worst = null;
        for (int lot = 0; lot < 10; lot++) {
            int[] t = {lot, 0, 0};
            for (Place p : places) {
                if (p.bed != null && p.bed.lot == lot && p.bed.grade >= 0) {
                    t[1] += p.bed.grade;
                    t[2]++;
                }
            }
            if (t[2] >= 2 && (worst == null || (double) t[1] / t[2] > (double) worst[1] / worst[2] + 1e-9)) {
                worst = t;
            }
        }
        return worst == null || what < 0 || what > 2 ? -1 : worst[what];
    }

    int complain(int corner, int kind) {
        if (!isPlace(corner) || kind < 0 || kind > 3) {
            return -1;
        }
        for (int i = 0; i < complaints.size(); i++) {
            int[] t = complaints.get(i);
            if (t[0] == corner && t[1] == kind && t[5] == 1 && t[3] >= day - 7) {
                t[3] = day;
                t[4]++;
                return i;
            }
        }
        if (complaints.size() == 60) {
            return -1;
        }
        complaints.add(new int[] {corner, kind, day, day, 1, 1});
        return complaints.size() - 1;
    }

    boolean close(int i) {
        if (i < 0 || i >= complaints.size() || complaints.get(i)[5] == 0) {
            return false;
        }
        complaints.get(i)[5] = 0;
        return true;
    }

    int complaint(int i, int what) {
        return i < 0 || i >= complaints.size() || what < 0 || what > 5 ? -1 : complaints.get(i)[what];
    }

    int feed(int a, int b, int c, int d, int e) {
        if (tape.size() > 680) {
            return -1;
        }
        for (int n : new int[] {a, b, c, d, e}) {
            for (int i = 0; i < 4; i++) {
                tape.add(n >>> 24);
                n <<= 8;
            }
        }
        return tape.size();
    }

    int rules(int n) {
        if (n < 0 || n > tape.size()) {
            return -2;
        }
        if (rules.size() == 10) {
            return -3;
        }
        StringBuilder text = new StringBuilder();
        for (int b : tape.subList(0, n)) {
            text.append((char) b);
        }
        tape.clear();
        Rules r = new Rules();
        r.since = day;
        fault = read(text.toString(), r);
        if (fault >= 0) {
            return -1;
        }
        rules.add(r);
        return rules.size() - 1;
    }

    /** Token by token: the shapes that still go with what the statement has so far. */
    private static int read(String text, Rules r) {
        java.util.regex.Matcher m = java.util.regex.Pattern.compile("[a-z]+|[0-9]+|;|[^ \n]").matcher(text);
        List<String> statement = new ArrayList<>();
        int many = 0;
        while (m.find()) {
            statement.add(m.group());
            String[] shape = null;
            for (String each : SHAPES) {
                shape = goes(statement, each.split(" ")) ? each.split(" ") : shape;
            }
            if (shape == null || many == 24) {
                return m.start();
            }
            if (statement.size() == shape.length) {
                keep(statement, r);
                statement.clear();
                many++;
            }
        }
        return statement.isEmpty() ? -1 : text.length();
    }

    private static boolean goes(List<String> statement, String[] shape) {
        if (statement.size() > shape.length) {
            return false;
        }
        for (int i = 0; i < statement.size(); i++) {
            String s = statement.get(i);
            String pattern = switch (shape[i]) {
                case "#" -> "[0-9]{1,4}";
                case "+" -> "(?!0+$)[0-9]{1,4}";
                case "g" -> "0{0,3}[0-3]";
                default -> shape[i];
            };
            if (!s.matches(pattern)) {
                return false;
            }
        }
        return true;
    }

    private static void keep(List<String> statement, Rules r) {
        int[] numbers = statement.stream().filter(s -> s.matches("[0-9]+")).mapToInt(Integer::parseInt).toArray();
        String word = statement.get(0);
        if (word.equals("turn")) {
            r.turns.add(numbers);
        } else if (word.equals("look")) {
            r.latest.put(word + numbers[0], new int[] {numbers[1], numbers[2]});
        } else {
            r.latest.put(word, numbers);
        }
    }

    int fault() {
        return fault;
    }

    int law(int d, int what) {
        if (d < 0 || d > 3649 || what < 0 || what > 22) {
            return -1;
        }
        Rules r = on(d);
        List<Integer> all = new ArrayList<>();
        all.add(r.of("clog", 2)[0]);
        Arrays.stream(r.of("leaves", 250, 320)).forEach(all::add);
        all.add(r.of("owe", 3)[0]);
        all.add(r.of("parking", 20)[0]);
        all.add(r.of("salt", 30)[0]);
        all.add(r.of("stand", 3)[0]);
        Arrays.stream(r.of("fee", 5, 2, 10)).forEach(all::add);
        Arrays.stream(r.of("cost", 50, 1)).forEach(all::add);
        all.add(r.of("doubt", 10)[0]);
        for (int g = 0; g < 4; g++) {
            Arrays.stream(r.look(g)).forEach(all::add);
        }
        all.add(r.turns.size());
        all.add(rules.indexOf(r));
        return all.get(what);
    }

    long sum(int what) {
        long bowls = places.stream().filter(p -> p.bed != null).mapToLong(p -> p.bed.water).sum();
        long barrels = houses.stream().mapToLong(h -> h.water).sum();
        return what < 0 || what > 6 ? -1 : new long[] {rained, drunk, spilt, works, bowls, used, barrels}[what];
    }

    int count(int what) {
        if (what < 0 || what > 12) {
            return -1;
        }
        int beds = 0;
        int parking = 0;
        int bare = 0;
        for (Place p : places) {
            if (p.bed != null) {
                beds++;
                parking += p.parking;
                bare += p.bed.plants ? 0 : 1;
            }
        }
        int open = (int) complaints.stream().filter(t -> t[5] == 1).count();
        return new int[] {
            day, places.size(), houses.size(), beds, parking, storm.size(), told.size(), rules.size(), looks,
            complaints.size(), open, bare, tape.size()
        }[what];
    }
}
