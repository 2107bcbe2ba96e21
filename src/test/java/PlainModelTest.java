import java.nio.charset.StandardCharsets;
import java.util.ArrayDeque;
import java.util.Deque;
import java.util.Random;

/** Runs of calls at random (from seeds that stay), each asked of the class and of PlainStreets; and water's balance. */
public final class PlainModelTest {
    private static final int RUNS = 400;
    private static final int CALLS = 512;
    private static final String[] WORDS = {
        "turn", "at", "every", "from", "clog", "leaves", "to", "owe", "parking", "salt", "stand", "fee", "credit",
        "bed", "cost", "bowl", "doubt", "look", ";", "clogs", "A"
    };

    private final Random random;
    private final RainStreets x = new RainStreets();
    private final PlainStreets plain = new PlainStreets();
    private final Deque<String> log = new ArrayDeque<>();
    private int wrong;

    private PlainModelTest(long seed) {
        random = new Random(seed);
    }

    public static void main(String[] args) {
        int wrong = 0;
        int runs = args.length > 0 ? Integer.parseInt(args[0]) : RUNS;
        for (int run = 0; run < runs && wrong == 0; run++) {
            PlainModelTest one = new PlainModelTest(run);
            int corners = run % 4 == 0 ? 3 : run % 4 == 1 ? 12 : 7;
            one.begin(run, corners);
            for (int call = corners; call < CALLS && one.wrong == 0; call++) {
                one.call(run);
            }
            if (one.wrong == 0) {
                one.lookAround();
                one.weighWater();
            }
            if (one.wrong > 0) {
                System.out.println("run " + run + ", its last calls: " + one.log);
            }
            wrong += one.wrong;
        }
        System.out.println(runs + " runs, " + wrong + " answers not as the plain model's");
        if (wrong > 0) {
            System.exit(1);
        }
    }

    private void due(String call, long got, long want) {
        log.add(call + " = " + got);
        if (log.size() > 40) {
            log.remove();
        }
        if (got != want) {
            wrong++;
            System.out.println(call + " answered " + got + ", the plain model " + want);
        }
    }

    private void due(String call, boolean got, boolean want) {
        due(call, got ? 1 : 0, want ? 1 : 0);
    }

    /** Mostly within, at times at an edge or beyond it. */
    private int from(int least, int most) {
        int dice = random.nextInt(60);
        if (dice == 0) {
            return least - 1;
        }
        if (dice == 1) {
            return most + 1;
        }
        if (dice == 2) {
            return random.nextInt();
        }
        if (dice < 6) {
            return dice == 3 ? least : most;
        }
        return least + random.nextInt(Math.max(1, most - least + 1));
    }

    private int corner() {
        return from(0, x.count(1) - 1);
    }

    private void begin(int run, int corners) {
        for (int i = 0; i < corners; i++) {
            newCorner();
        }
        for (int i = 0; i < corners; i++) {
            newBelow();
        }
        if (run % 2 == 0) {
            for (int i = 0; i < 8; i++) {
                newRoof();
                newRain();
            }
        }
    }

    private void newCorner() {
        int a = from(1, 100);
        int p = random.nextBoolean() ? from(1, 500) : from(1, 60);
        int park = random.nextBoolean() ? from(0, 3) : from(0, 9);
        int cellar = random.nextInt(3) == 0 ? 0 : random.nextBoolean() ? from(0, 500) : from(0, 60);
        due("corner " + a + " " + p + " " + park + " " + cellar, x.corner(a, p, park, cellar), plain.corner(a, p, park, cellar));
    }

    private void newBelow() {
        int c = corner();
        int to = random.nextInt(6) == 0 ? -1 : from(c + 1, x.count(1) - 1);
        due("below " + c + " " + to, x.below(c, to), plain.below(c, to));
    }

    private void newRoof() {
        int c = corner();
        int o = from(0, 19);
        int a = from(1, 50);
        int b = random.nextInt(4) == 0 ? 0 : from(0, 200);
        due("roof " + c + " " + o + " " + a + " " + b, x.roof(c, o, a, b), plain.roof(c, o, a, b));
    }

    private void newRain() {
        int r = random.nextBoolean() ? from(0, 50) : from(0, 8);
        due("rain " + r, x.rain(r), plain.rain(r));
    }

    private void newBed() {
        int c = corner();
        int l = random.nextBoolean() ? from(0, 2) : from(0, 9);
        int b = from(1, 500);
        boolean t = random.nextBoolean();
        due("bed " + c + " " + l + " " + b + " " + t, x.bed(c, l, b, t), plain.bed(c, l, b, t));
    }

    private void call(int run) {
        switch (random.nextInt(14)) {
            case 0, 1 -> build();
            case 2, 3, 4 -> tend();
            case 5, 6 -> weather(run);
            case 7 -> law();
            case 8, 9 -> plan(run);
            case 10 -> talk();
            default -> ask();
        }
    }

    private void build() {
        switch (random.nextInt(10)) {
            case 0 -> newCorner();
            case 1 -> newBelow();
            case 2, 3, 4 -> newRoof();
            case 5 -> {
                int l = from(0, 9);
                int d = from(1, 100);
                due("lot " + l + " " + d, x.lot(l, d), plain.lot(l, d));
            }
            default -> newBed();
        }
    }

    private void tend() {
        int c = corner();
        switch (random.nextInt(8)) {
            case 0 -> {
                int w = from(0, 1);
                due("treat " + c + " " + w, x.treat(c, w), plain.treat(c, w));
            }
            case 1 -> due("treat " + c + " 0", x.treat(c, 0), plain.treat(c, 0));
            case 2 -> {
                int r = from(0, x.count(2) - 1);
                due("prove " + r, x.prove(r), plain.prove(r));
            }
            case 3, 4 -> {
                int by = from(0, 10);
                due("care " + c + " " + by, x.care(c, by), plain.care(c, by));
            }
            case 5 -> {
                int g = from(0, 3);
                due("look " + c + " " + g, x.look(c, g), plain.look(c, g));
            }
            default -> {
                int n = random.nextInt(8) == 0 ? from(1, 100) : from(1, 4);
                due("pass " + n, x.pass(n), plain.pass(n));
            }
        }
    }

    private void weather(int run) {
        switch (random.nextInt(run % 3 == 0 ? 40 : 12)) {
            case 0 -> due("clear", x.clear(), plain.clear());
            case 1, 2, 3 -> due("storm", x.storm(), plain.storm());
            default -> newRain();
        }
    }

    private void law() {
        if (random.nextInt(12) == 0) {
            int n = from(0, x.count(12));
            due("rules " + n, x.rules(n), plain.rules(n));
            due("fault", x.fault(), plain.fault());
            return;
        }
        StringBuilder text = new StringBuilder();
        int most = random.nextInt(10) == 0 ? 26 : random.nextInt(9);
        for (int i = 0; i < most; i++) {
            text.append(statement()).append(" \n".charAt(random.nextInt(2)));
        }
        if (random.nextInt(3) == 0 && text.length() > 0) {
            int at = random.nextInt(text.length());
            switch (random.nextInt(3)) {
                case 0 -> text.deleteCharAt(at);
                case 1 -> text.setCharAt(at, (char) random.nextInt(256));
                default -> text.insert(at, " " + WORDS[random.nextInt(WORDS.length)] + " ");
            }
        }
        byte[] bytes = text.toString().getBytes(StandardCharsets.ISO_8859_1);
        int begins = x.count(12);
        for (int i = 0; i < bytes.length && begins + i < 700; i += 20) {
            int[] n = new int[5];
            for (int j = 0; j < 20; j++) {
                n[j / 4] = n[j / 4] << 8 | (i + j < bytes.length ? bytes[i + j] & 255 : ' ');
            }
            due("feed", x.feed(n[0], n[1], n[2], n[3], n[4]), plain.feed(n[0], n[1], n[2], n[3], n[4]));
        }
        if (random.nextInt(2) == 0) {
            int n = random.nextInt(8) == 0 ? from(0, x.count(12)) : x.count(12);
            due("rules " + n + " of " + text, x.rules(n), plain.rules(n));
            due("fault", x.fault(), plain.fault());
        }
    }

    private int number(int usual) {
        return random.nextInt(40) == 0 ? random.nextInt(11000) : random.nextInt(usual + 1);
    }

    private String statement() {
        return switch (random.nextInt(14)) {
            case 0 -> "clog " + number(20) + ";";
            case 1 -> "leaves " + number(364) + " to " + number(364) + ";";
            case 2 -> "owe " + number(9) + ";";
            case 3 -> "parking " + number(50) + ";";
            case 4 -> "salt " + number(50) + ";";
            case 5 -> "stand " + number(3) + ";";
            case 6 -> "fee " + number(20) + " credit " + number(5) + " bed " + number(20) + ";";
            case 7 -> "cost " + number(200) + " bowl " + number(5) + ";";
            case 8 -> "doubt " + number(60) + ";";
            case 9, 10 -> "look " + number(3) + " from " + number(100) + "to" + number(100) + ";";
            default -> "turn " + number(9) + "at " + number(12) + " every " + number(4) + "from " + number(20) + ";";
        };
    }

    private void plan(int run) {
        int what = from(0, 4);
        switch (random.nextInt(6)) {
            case 0 -> {
                int set = random.nextInt(8) == 0 ? random.nextInt() : random.nextInt(1 << x.count(1));
                int w = from(0, 1);
                due("tried " + set + " " + w, x.tried(set, w), plain.tried(set, w));
            }
            case 1 -> {
                // The plain model takes its time: few sets of many corners.
                int k = x.count(1) > 8 ? from(0, 2) : from(0, 4);
                int coins = random.nextBoolean() ? from(0, 99999) : from(0, 900);
                int w = random.nextBoolean() ? from(0, 10000) : from(0, 20);
                if (run % 5 == 0 || x.count(1) <= 8) {
                    String call = "best " + k + " " + coins + " " + w + " " + what;
                    due(call, x.best(k, coins, w, what), plain.best(k, coins, w, what));
                }
            }
            case 2 -> {
                int c = corner();
                int o = corner();
                due("helps " + c + " " + o, x.helps(c, o), plain.helps(c, o));
            }
            case 3, 4 -> {
                int h = random.nextBoolean() ? from(0, 60) : from(0, 20);
                int w = from(0, 2);
                due("crew " + h + " " + w, x.crew(h, w), plain.crew(h, w));
            }
            default -> {
                int d = random.nextBoolean() ? from(0, x.count(0)) : from(0, 3649);
                int w = from(0, 3);
                due("compare " + d + " " + w, x.compare(d, w), plain.compare(d, w));
            }
        }
    }

    private void talk() {
        int c = corner();
        int k = from(0, 3);
        int i = from(0, x.count(9) - 1);
        if (random.nextInt(3) == 0) {
            due("close " + i, x.close(i), plain.close(i));
        } else {
            due("complain " + c + " " + k, x.complain(c, k), plain.complain(c, k));
        }
    }

    private void ask() {
        int c = corner();
        int w = from(0, 14);
        int n = from(0, 9);
        int d = random.nextBoolean() ? from(0, x.count(0)) : from(0, 3649);
        int i = from(0, 40);
        int o = from(0, 19);
        switch (random.nextInt(11)) {
            case 0 -> due("told " + c + " " + w, x.told(c, w), plain.told(c, w));
            case 1 -> due("bedOf " + c + " " + w, x.bedOf(c, w), plain.bedOf(c, w));
            case 2 -> due("roofOf " + i + " " + w, x.roofOf(i, w), plain.roofOf(i, w));
            case 3 -> due("stormOf " + i + " " + w, x.stormOf(i, w), plain.stormOf(i, w));
            case 4 -> due("neighbour " + n + " " + w % 2, x.neighbour(n, w % 2), plain.neighbour(n, w % 2));
            case 5 -> due("turn " + n + " " + c + " " + d, x.turn(n, c, d), plain.turn(n, c, d));
            case 6 -> due("fee " + o + " " + n, x.fee(o, n), plain.fee(o, n));
            case 7 -> due("worst " + w % 4, x.worst(w % 4), plain.worst(w % 4));
            case 8 -> due("complaint " + i + " " + w % 7, x.complaint(i, w % 7), plain.complaint(i, w % 7));
            case 9 -> due("law " + d + " " + w * 2, x.law(d, w * 2), plain.law(d, w * 2));
            default -> {
                due("sum " + w, x.sum(w), plain.sum(w));
                due("count " + w, x.count(w), plain.count(w));
            }
        }
    }

    /** All that can be asked, at the end of a run (asking changes nothing, so it counts as no call). */
    private void lookAround() {
        for (int hours = 0; hours <= 60; hours += 5) {
            due("crew " + hours + " 1", x.crew(hours, 1), plain.crew(hours, 1));
        }
        for (int what = -1; what < 24; what++) {
            for (int i = -1; i < 61; i++) {
                due("told " + i + " " + what, x.told(i, what), plain.told(i, what));
                due("bedOf " + i + " " + what, x.bedOf(i, what), plain.bedOf(i, what));
                due("roofOf " + i + " " + what, x.roofOf(i, what), plain.roofOf(i, what));
                due("stormOf " + i + " " + what, x.stormOf(i, what), plain.stormOf(i, what));
                due("complaint " + i + " " + what, x.complaint(i, what), plain.complaint(i, what));
                due("neighbour " + i + " " + what, x.neighbour(i, what), plain.neighbour(i, what));
                due("fee " + i + " " + what, x.fee(i, what), plain.fee(i, what));
            }
            int today = x.count(0);
            due("law " + what, x.law(today, what), plain.law(today, what));
            due("sum " + what, x.sum(what), plain.sum(what));
            due("count " + what, x.count(what), plain.count(what));
            due("worst " + what, x.worst(what), plain.worst(what));
        }
    }

    private void weighWater() {
        due("rained = drunk + spilt + works + in bowls + used + in barrels", x.sum(0),
            x.sum(1) + x.sum(2) + x.sum(3) + x.sum(4) + x.sum(5) + x.sum(6));
    }
}
