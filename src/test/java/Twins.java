import java.util.ArrayList;
import java.util.List;

/**
 * A refused call does nothing: of two objects made alike it's made on one, and what all later calls show must be
 * the same of both. An object is good for 512 calls, so each part of what can be shown is asked of new twins.
 */
final class Twins {
    interface Made {
        RainStreets made();
    }

    interface Call {
        long on(RainStreets x);
    }

    interface YesNo {
        boolean on(RainStreets x);
    }

    interface Taker {
        long take(RainStreets x, int number);
    }

    interface Shown {
        void of(RainStreets x, List<Long> answers);
    }

    /** What is done ahead of asking: nothing, a few days, storms, care and talk, new rules and rain. */
    private static final Shown[] LATER = {
        (x, a) -> { }, Twins::days, Twins::storms, Twins::tend, Twins::talk, Twins::anew
    };
    private static final Shown[] PARTS = {
        Twins::places, Twins::beds, Twins::roofs, Twins::told, Twins::oldComplaints, Twins::newComplaints,
        Twins::plans, Twins::laws
    };

    private Twins() {
    }

    /** The call answers as due, and does nothing. */
    static void refused(Due due, String name, Made made, long want, Call call) {
        for (int later = 0; later < LATER.length; later++) {
            for (int part = 0; part < PARTS.length; part++) {
                RainStreets x = made.made();
                RainStreets y = made.made();
                due.is(name, call.on(x), want);
                due.yes(name + " does nothing (" + later + ", " + part + ")", shown(x, later, part).equals(shown(y, later, part)));
            }
        }
    }

    /** The call answers as due; but for the rules and the tape, all that is shown is as ahead of it. */
    static void faulty(Due due, String name, Made made, long want, Call call) {
        for (int later = 0; later < LATER.length - 1; later++) {
            for (int part = 0; part < PARTS.length - 1; part++) {
                RainStreets x = made.made();
                due.is(name, call.on(x), want);
                List<Long> with = shown(x, later, part);
                List<Long> without = shown(made.made(), later, part);
                int bytesOnTape = with.size() - 8;
                with.remove(bytesOnTape);
                without.remove(without.size() - 8);
                due.yes(name + " leaves the rest (" + later + ", " + part + ")", with.equals(without));
            }
        }
    }

    static void none(Due due, String name, Made made, Call call) {
        refused(due, name, made, -1, call);
    }

    static void no(Due due, String name, Made made, YesNo call) {
        refused(due, name, made, 0, x -> call.on(x) ? 1 : 0);
    }

    /** From least to most is taken, with the answer due; the next numbers on either side are refused and do nothing. */
    static void span(Due due, String name, int least, int most, Made made, long taken, long refused, Taker taker) {
        due.is(name + " " + least, taker.take(made.made(), least), taken);
        due.is(name + " " + most, taker.take(made.made(), most), taken);
        int[] beyond = {least - 1, most + 1, Integer.MIN_VALUE, Integer.MAX_VALUE};
        for (int number : beyond) {
            refused(due, name + " " + number, made, refused, x -> taker.take(x, number));
        }
    }

    /** Of each what from 0 to most there is an answer; of the next on either side there's none. */
    static void asked(Due due, String name, int most, Made made, Taker taker) {
        for (int what = 0; what <= most; what++) {
            due.yes(name + " " + what + " answers", taker.take(made.made(), what) != RainStreets.NONE);
        }
        int[] beyond = {-1, most + 1, Integer.MIN_VALUE, Integer.MAX_VALUE};
        for (int what : beyond) {
            none(due, name + " " + what, made, x -> taker.take(x, what));
        }
    }

    private static List<Long> shown(RainStreets x, int later, int part) {
        List<Long> answers = new ArrayList<>();
        LATER[later].of(x, answers);
        PARTS[part].of(x, answers);
        for (int what = 0; what <= 12; what++) {
            answers.add((long) x.count(what));
        }
        for (int what = 0; what <= 6; what++) {
            answers.add(x.sum(what));
        }
        return answers;
    }

    // ---- what is done ----

    private static void days(RainStreets x, List<Long> answers) {
        answers.add((long) x.pass(1));
        answers.add((long) x.pass(2));
    }

    private static void storms(RainStreets x, List<Long> answers) {
        answers.add(x.bed(2, 0, 500, false) ? 1L : 0L);
        answers.add((long) x.storm());
        answers.add((long) x.clear());
        answers.add((long) x.rain(9));
        answers.add((long) x.storm());
        answers.add((long) x.pass(1));
    }

    private static void tend(RainStreets x, List<Long> answers) {
        int corners = x.count(1);
        for (int corner = 0; corner < corners; corner++) {
            answers.add(x.care(corner, corner % 11) ? 1L : 0L);
            answers.add(x.care(corner, 3) ? 1L : 0L);
            answers.add(x.treat(corner, 1) ? 1L : 0L);
            answers.add((long) x.look(corner, corner % 4));
        }
        answers.add(x.prove(0) ? 1L : 0L);
    }

    private static void talk(RainStreets x, List<Long> answers) {
        answers.add((long) x.complain(0, 0));
        answers.add((long) x.complain(0, 2));
        answers.add((long) x.complain(1, 2));
        answers.add(x.close(0) ? 1L : 0L);
        answers.add((long) x.complain(0, 0));
    }

    private static void anew(RainStreets x, List<Long> answers) {
        answers.add((long) x.rules(x.count(12)));
        answers.add((long) x.feed(0x6f776520, 0x37203b20, 0x20202020, 0x20202020, 0x20202020));
        answers.add((long) x.rules(20));
        answers.add((long) x.corner(7, 7, 7, 7));
        answers.add((long) x.roof(0, 7, 7, 7));
        answers.add((long) x.rain(7));
        for (int corner = 0; corner < 4; corner++) {
            answers.add(x.bed(corner, 0, 50, false) ? 1L : 0L);
        }
    }

    // ---- what is asked ----

    private static void places(RainStreets x, List<Long> answers) {
        int corners = x.count(1);
        for (int corner = 0; corner <= corners; corner++) {
            for (int what = 0; what <= 8; what++) {
                answers.add((long) x.told(corner, what));
            }
        }
    }

    private static void beds(RainStreets x, List<Long> answers) {
        int corners = x.count(1);
        for (int corner = 0; corner < corners; corner++) {
            boolean bed = x.told(corner, 5) == 1;
            for (int what = 0; what <= 13 && bed; what++) {
                answers.add((long) x.bedOf(corner, what));
            }
        }
    }

    private static void roofs(RainStreets x, List<Long> answers) {
        int roofs = x.count(2);
        for (int roof = 0; roof < roofs; roof++) {
            for (int what = 0; what <= 5; what++) {
                answers.add((long) x.roofOf(roof, what));
            }
        }
    }

    private static void told(RainStreets x, List<Long> answers) {
        int storms = x.count(6);
        for (int storm = 0; storm <= storms; storm++) {
            for (int what = 0; what <= 4; what++) {
                answers.add(x.stormOf(storm, what));
            }
        }
    }

    private static void oldComplaints(RainStreets x, List<Long> answers) {
        complaints(x, answers, 0);
    }

    private static void newComplaints(RainStreets x, List<Long> answers) {
        complaints(x, answers, 30);
    }

    private static void complaints(RainStreets x, List<Long> answers, int from) {
        int end = Math.min(from + 30, x.count(9));
        for (int complaint = from; complaint < end; complaint++) {
            for (int what = 0; what <= 5; what++) {
                answers.add((long) x.complaint(complaint, what));
            }
        }
    }

    private static void laws(RainStreets x, List<Long> answers) {
        int today = x.count(0);
        for (int what = 0; what <= 22; what++) {
            answers.add((long) x.law(today, what));
            answers.add((long) x.law(today - 1, what));
            answers.add((long) x.law(0, what));
            answers.add((long) x.law(3649, what));
        }
        answers.add((long) x.fault());
        for (int day = today; day < today + 4; day++) {
            answers.add((long) x.turn(3, 0, day));
        }
    }

    private static void plans(RainStreets x, List<Long> answers) {
        for (int neighbour = 0; neighbour < 10; neighbour++) {
            answers.add((long) x.neighbour(neighbour, 0));
            answers.add((long) x.neighbour(neighbour, 1));
        }
        for (int owner = 0; owner < 20; owner++) {
            answers.add((long) x.fee(owner, 0));
        }
        for (int what = 0; what <= 4; what++) {
            answers.add(x.best(1, 99999, 10, what));
            answers.add(x.compare(2, what));
            answers.add((long) x.crew(8, what));
            answers.add((long) x.worst(what));
            answers.add(x.tried(0, what));
        }
    }

    // ---- what twins are made like ----

    static RainStreets empty() {
        return new RainStreets();
    }

    /** Some of all: corners with and without beds and below one another, roofs, rules, storms, looks, complaints. */
    static RainStreets lively() {
        RainStreets x = unseen();
        x.look(0, 2);
        x.look(1, 1);
        return x;
    }

    /** As the lively one, without looks. */
    static RainStreets unseen() {
        RainStreets x = new RainStreets();
        x.corner(10, 100, 5, 0);
        x.corner(20, 60, 8, 150);
        x.corner(5, 30, 9, 0);
        x.corner(12, 40, 0, 20);
        x.below(0, 1);
        x.below(1, 2);
        x.roof(0, 3, 4, 30);
        x.roof(1, 9, 10, 0);
        x.roof(3, 19, 7, 50);
        x.lot(1, 30);
        x.lot(2, 3);
        Due.ruled(x, "clog 20; turn 3 at 0 every 2 from 0; leaves 0 to 364; stand 0; salt 10; parking 25;");
        x.bed(0, 1, 80, true);
        x.bed(1, 1, 40, false);
        x.bed(3, 2, 300, false);
        x.treat(0, 0);
        x.rain(10);
        x.rain(3);
        x.storm();
        x.care(0, 3);
        x.complain(0, 0);
        x.complain(1, 1);
        x.close(1);
        x.prove(0);
        x.pass(2);
        x.storm();
        x.pass(1);
        x.care(1, 10);
        Due.ruled(x, "clog");
        x.rain(5);
        Due.fed(x, "clog 3; doubt 50;");
        return x;
    }

    /** As many of all as there may be. */
    static RainStreets full() {
        RainStreets x = new RainStreets();
        for (int corner = 0; corner < 12; corner++) {
            x.corner(10 + corner, 50, 1, 10);
        }
        x.below(0, 1);
        x.pass(1);
        for (int roof = 0; roof < 30; roof++) {
            x.roof(roof % 12, roof % 20, 1 + roof, 2 * roof);
        }
        x.bed(0, 0, 200, false);
        x.bed(1, 0, 100, true);
        for (int minute = 0; minute < 30; minute++) {
            x.rain(minute % 4);
        }
        for (int storm = 0; storm < 40; storm++) {
            x.storm();
        }
        for (int rules = 0; rules < 10; rules++) {
            x.rules(0);
        }
        for (int complaint = 0; complaint < 60; complaint++) {
            x.complain(complaint % 12, complaint / 12 % 4);
            if (complaint < 12) {
                x.close(complaint);
            }
        }
        for (int twenty = 0; twenty < 35; twenty++) {
            x.feed(0x20202020, 0x20202020, 0x20202020, 0x20202020, 0x20202020);
        }
        return x;
    }
}
