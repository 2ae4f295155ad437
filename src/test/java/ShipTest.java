/** Promises 1 to 15: ship and pointers. */
public final class ShipTest {
    private static final Checks c = new Checks();

    public static void main(String[] args) {
        aNewObject();
        set();
        head();
        seasAndCalm();
        kind();
        tune();
        off();
        told();
        iron();
        shows();
        now();
        lean();
        deviation();
        run();
        runMovesEachKind();
        runIsBounded();
        c.end();
    }

    private static void aNewObject() {
        c.says("All as at first, PLACE 0.");
        NorthWheel x = new NorthWheel();
        for (int p = 0; p < 3; p++) {
            c.due("new: shows", x.shows(p), 0);
            c.due("new: off", x.now(p, 0), 50000);
            c.due("new: rate", x.now(p, 1), 50000);
        }
        int[] counts = {0, 0, 50, 0, 0, 0, 0, 0};
        for (int k = 0; k < counts.length; k++) {
            c.due("new: count " + k, x.count(k), counts[k]);
        }
        int[] steers = {0, 100, 0, 35, 1, 0};
        for (int k = 0; k < steers.length; k++) {
            c.due("new: steers " + k, x.steers(k), steers[k]);
        }
        for (int k = 0; k < 8; k++) {
            c.due("new: deviation", x.deviation(4500 * k), 50000);
            c.due("new: needle", x.needle(k, 0), NorthWheel.NONE);
        }
        c.due("new: place", x.set(0, 0), 100);
        c.due("new: speed", x.set(1, 0), 100);
        c.due("new: agile", x.set(2, 0), 120);
        c.due("new: rudder", x.set(3, 0), 100);
        c.due("new: pull", x.tune(2, 0, 0), 10);
        c.due("new: damp", x.tune(2, 1, 0), 20);
        c.due("new: kick", x.tune(2, 2, 0), 0);
        c.due("new: kind", x.kind(2, 0), 0);
        c.due("new: course", x.course(0), 0);
        c.due("new: fault", x.fault(), 0);
    }

    private static void set() {
        c.says("PLACE (what 0), SPEED (1), AGILE (2), RUDDER (3): that which it was, and 100. OUTSIDE.");
        NorthWheel x = new NorthWheel();
        int[] least = {-89, 0, 0, -35};
        int[] greatest = {89, 40, 99, 35};
        int[] first = {0, 0, 20, 0};
        for (int what = 0; what < 4; what++) {
            c.due("set too little", x.set(what, least[what] - 1), NorthWheel.OUTSIDE);
            c.due("set too much", x.set(what, greatest[what] + 1), NorthWheel.OUTSIDE);
            c.due("set least", x.set(what, least[what]), first[what] + 100);
            c.due("set greatest", x.set(what, greatest[what]), least[what] + 100);
            c.due("set again", x.set(what, 7), greatest[what] + 100);
        }
        c.due("set -1", x.set(-1, 0), NorthWheel.OUTSIDE);
        c.due("set 4", x.set(4, 0), NorthWheel.OUTSIDE);
        c.due("set far", x.set(0, Integer.MIN_VALUE), NorthWheel.OUTSIDE);
        for (int what = 0; what < 4; what++) {
            c.due("set unchanged", x.set(what, 7), 107);
        }
    }

    private static void head() {
        c.says("HEADING: that which it was. OUTSIDE (0 .. 35999).");
        NorthWheel x = new NorthWheel();
        c.due("head 35999", x.head(35999), 0);
        c.due("head -1", x.head(-1), NorthWheel.OUTSIDE);
        c.due("head 36000", x.head(36000), NorthWheel.OUTSIDE);
        c.due("count 1", x.count(1), 35999);
        c.due("head 0", x.head(0), 35999);
    }

    private static void seasAndCalm() {
        c.says("A YAW more of SEAS: how many. OUTSIDE; FULL.");
        NorthWheel x = new NorthWheel();
        c.due("sea 1000", x.sea(1000), NorthWheel.OUTSIDE);
        c.due("sea -1000", x.sea(-1000), NorthWheel.OUTSIDE);
        c.due("calm none", x.calm(), 0);
        for (int k = 1; k <= 24; k++) {
            c.due("sea", x.sea(k % 2 == 0 ? 999 : -999), k);
        }
        c.due("sea full", x.sea(0), NorthWheel.FULL);
        c.due("sea outside first", x.sea(1000), NorthWheel.OUTSIDE);
        c.due("seas", x.count(3), 24);
        c.due("calm", x.calm(), 24);
        c.due("calm again", x.calm(), 0);
        c.due("no seas", x.run(1, false), 0);
        // the yaw goes by the ticks counted, not by when the seas were told
        x.sea(10);
        x.sea(200);
        c.due("yaw of tick 1", x.run(1, false), 200);
        c.due("yaw of tick 2", x.run(1, false), 210);
        x.sea(-3000 / 10);
        c.due("yaw of tick 3 of three", x.run(1, false), 220);
        c.due("yaws of ticks 4, 5", x.run(2, false), 120);
    }

    private static void kind() {
        c.says("KIND of a POINTER: that which it was. UNKNOWN; OUTSIDE.");
        NorthWheel x = new NorthWheel();
        for (int kind = 0; kind <= 5; kind++) {
            c.due("kind", x.kind(1, kind), kind == 0 ? 0 : kind - 1);
        }
        c.due("kind 6", x.kind(1, 6), NorthWheel.OUTSIDE);
        c.due("kind -1", x.kind(1, -1), NorthWheel.OUTSIDE);
        c.due("kind of 3", x.kind(3, 6), NorthWheel.UNKNOWN);
        c.due("kind of -1", x.kind(-1, 0), NorthWheel.UNKNOWN);
        c.due("kind unchanged", x.kind(1, 3), 5);
        // a kind told lays the pointer at 0, even the same kind; its numbers stay
        x.tune(1, 0, 50);
        x.off(1, 3000);
        x.told(1, 10, 0);
        x.run(1, false);
        c.due("rate ahead", x.now(1, 1), 50000 - 1200);
        c.due("kind refused", x.kind(1, 9), NorthWheel.OUTSIDE);
        c.due("rate stays", x.now(1, 1), 50000 - 1200);
        c.due("same kind", x.kind(1, 3), 3);
        c.due("off", x.now(1, 0), 50000);
        c.due("rate", x.now(1, 1), 50000);
        c.due("corrected", x.kind(1, 4), 3);
        c.due("told stays", x.shows(1), 200);
        c.due("pull stays", x.tune(1, 0, 50), 50);
    }

    private static void tune() {
        c.says("PULL (what 0), DAMP (1), KICK (2) of a POINTER: that which it was. UNKNOWN; OUTSIDE.");
        NorthWheel x = new NorthWheel();
        int[] first = {10, 20, 0};
        for (int what = 0; what < 3; what++) {
            c.due("tune -1", x.tune(0, what, -1), NorthWheel.OUTSIDE);
            c.due("tune 100", x.tune(0, what, 100), NorthWheel.OUTSIDE);
            c.due("tune 99", x.tune(0, what, 99), first[what]);
            c.due("tune 0", x.tune(0, what, 0), 99);
            c.due("tune", x.tune(0, what, what + 1), 0);
        }
        for (int what = 0; what < 3; what++) {
            c.due("tuned", x.tune(0, what, 5), what + 1);
            c.due("the other's", x.tune(1, what, 5), first[what]);
        }
        c.due("tune what -1", x.tune(0, -1, 0), NorthWheel.OUTSIDE);
        c.due("tune what 3", x.tune(0, 3, 0), NorthWheel.OUTSIDE);
        c.due("tune of 3", x.tune(3, 3, 100), NorthWheel.UNKNOWN);
        c.due("tune of -1", x.tune(-1, 0, 0), NorthWheel.UNKNOWN);
    }

    private static void off() {
        c.says("OFF of a POINTER is told, RATE is 0: 1. UNKNOWN; OUTSIDE.");
        NorthWheel x = new NorthWheel();
        x.kind(2, 2);
        c.due("off -18000", x.off(2, -18000), 1);
        c.due("now", x.now(2, 0), 32000);
        c.due("off 17999", x.off(2, 17999), 1);
        c.due("now", x.now(2, 0), 67999);
        c.due("off 18000", x.off(2, 18000), NorthWheel.OUTSIDE);
        c.due("off -18001", x.off(2, -18001), NorthWheel.OUTSIDE);
        c.due("off of 3", x.off(3, 18000), NorthWheel.UNKNOWN);
        c.due("off of -1", x.off(-1, 0), NorthWheel.UNKNOWN);
        c.due("now unchanged", x.now(2, 0), 67999);
        x.off(2, 1000);
        x.run(1, false);
        c.due("rate", x.now(2, 1), 49900);
        c.due("off again", x.off(2, 1000), 1);
        c.due("rate is 0", x.now(2, 1), 50000);
    }

    private static void told() {
        c.says("What a CORRECTED one is told: SPEED and PLACE: 1. UNKNOWN; OUTSIDE.");
        NorthWheel x = new NorthWheel();
        x.kind(0, 4);
        c.due("told", x.told(0, 40, -89), 1);
        // 40 times 90 times 20 by 1: two whole circles
        c.due("shows", x.shows(0), 0);
        c.due("told", x.told(0, 0, 89), 1);
        c.due("told", x.told(0, 10, 0), 1);
        c.due("shows", x.shows(0), 200);
        c.due("told 41", x.told(0, 41, 0), NorthWheel.OUTSIDE);
        c.due("told -1", x.told(0, -1, 0), NorthWheel.OUTSIDE);
        c.due("told place 90", x.told(0, 0, 90), NorthWheel.OUTSIDE);
        c.due("told place -90", x.told(0, 0, -90), NorthWheel.OUTSIDE);
        c.due("told to 3", x.told(3, 41, 90), NorthWheel.UNKNOWN);
        c.due("told to -1", x.told(-1, 0, 0), NorthWheel.UNKNOWN);
        c.due("shows unchanged", x.shows(0), 200);
        c.due("told one that is dead", x.told(1, 10, 0), 1);
        c.due("shows", x.shows(1), 0);
        x.kind(1, 4);
        c.due("shows what it was told", x.shows(1), 200);
    }

    private static void iron() {
        c.says("DEVIATION at eighth k (0 .. 7): 1. OUTSIDE.");
        NorthWheel x = new NorthWheel();
        c.due("iron", x.iron(0, -2000), 1);
        c.due("iron", x.iron(7, 2000), 1);
        c.due("iron -1", x.iron(-1, 0), NorthWheel.OUTSIDE);
        c.due("iron 8", x.iron(8, 0), NorthWheel.OUTSIDE);
        c.due("iron 2001", x.iron(0, 2001), NorthWheel.OUTSIDE);
        c.due("iron -2001", x.iron(0, -2001), NorthWheel.OUTSIDE);
        c.due("deviation", x.deviation(0), 48000);
        c.due("deviation", x.deviation(31500), 52000);
        c.due("deviation", x.deviation(4500), 50000);
    }

    private static void shows() {
        c.says("What a POINTER SHOWS. UNKNOWN.");
        NorthWheel x = new NorthWheel();
        x.head(100);
        c.due("dead", x.shows(0), 0);
        x.off(0, 50);
        c.due("dead still", x.shows(0), 0);
        for (int kind = 1; kind <= 4; kind++) {
            x.kind(0, kind);
            x.off(0, 300);
            c.due("heading less off", x.shows(0), 35800);
        }
        // bare 35800 is 2 degrees from 0: 12 times 88 times 20 by 50 is 422.4
        x.told(0, 12, 40);
        c.due("corrected", x.shows(0), 222);
        x.kind(0, 5);
        x.off(0, 300);
        x.iron(0, 1000);
        x.iron(1, 1000);
        c.due("iron", x.shows(0), 35100);
        c.due("shows 3", x.shows(3), NorthWheel.UNKNOWN);
        c.due("shows -1", x.shows(-1), NorthWheel.UNKNOWN);
    }

    private static void now() {
        c.says("OFF (what 0), RATE (1), both and 50000. UNKNOWN; OUTSIDE.");
        NorthWheel x = new NorthWheel();
        x.kind(1, 2);
        x.off(1, 900);
        x.run(1, false);
        c.due("off", x.now(1, 0), 50810);
        c.due("rate", x.now(1, 1), 49910);
        c.due("now 2", x.now(1, 2), NorthWheel.OUTSIDE);
        c.due("now -1", x.now(1, -1), NorthWheel.OUTSIDE);
        c.due("now of 3", x.now(3, 2), NorthWheel.UNKNOWN);
        c.due("now of -1", x.now(-1, 0), NorthWheel.UNKNOWN);
    }

    private static void lean() {
        c.says("LEAN of a SPEED, PLACE, HEADING, and 100000. OUTSIDE.");
        NorthWheel x = new NorthWheel();
        c.due("lean 0", x.lean(0, 89, 0), 100000);
        c.due("north", x.lean(9, 0, 0), 100180);
        c.due("a little off", x.lean(9, 0, 99), 100180);
        c.due("one degree", x.lean(9, 0, 100), 100178);
        c.due("one degree, other way", x.lean(9, 0, 35900), 100178);
        c.due("less, other way", x.lean(9, 0, 35901), 100180);
        c.due("east", x.lean(40, 89, 9000), 100000);
        c.due("east and more", x.lean(40, 89, 9099), 100000);
        c.due("west", x.lean(40, 89, 27000), 100000);
        c.due("south", x.lean(9, 0, 18000), 99820);
        // 1 times 90 times 20 by 7 is 257.1; south as far below 0
        c.due("cut", x.lean(1, 83, 0), 100257);
        c.due("hold 1", x.lean(1, -89, 0), 101800);
        c.due("cut towards 0", x.lean(1, -83, 18000), 99743);
        c.due("speed -1", x.lean(-1, 0, 0), NorthWheel.OUTSIDE);
        c.due("speed 41", x.lean(41, 0, 0), NorthWheel.OUTSIDE);
        c.due("place 90", x.lean(0, 90, 0), NorthWheel.OUTSIDE);
        c.due("place -90", x.lean(0, -90, 0), NorthWheel.OUTSIDE);
        c.due("heading -1", x.lean(0, 0, -1), NorthWheel.OUTSIDE);
        c.due("heading 36000", x.lean(0, 0, 36000), NorthWheel.OUTSIDE);
    }

    private static void deviation() {
        c.says("DEVIATION at a HEADING, and 50000. OUTSIDE.");
        NorthWheel x = new NorthWheel();
        x.iron(3, 100);
        x.iron(4, -101);
        c.due("told", x.deviation(13500), 50100);
        // 201 less times 1 by 4500 is cut to 0; times 23 by 4500 is 1.02
        c.due("just beyond", x.deviation(13501), 50100);
        c.due("one less", x.deviation(13523), 50099);
        c.due("just ahead", x.deviation(17999), 50000 + 100 - 200);
        c.due("told", x.deviation(18000), 49899);
        c.due("between", x.deviation(20250), 49899 + 50);
        x.iron(7, 10);
        x.iron(0, 20);
        c.due("round", x.deviation(33750), 50015);
        c.due("last", x.deviation(35999), 50019);
        c.due("deviation -1", x.deviation(-1), NorthWheel.OUTSIDE);
        c.due("deviation 36000", x.deviation(36000), NorthWheel.OUTSIDE);
    }

    private static void run() {
        c.says("n TICKS (1 .. 500) go by, THE STEERER steering (steered), or the RUDDER as it is: HEADING. OUTSIDE: "
            + "also beyond 5000.");
        NorthWheel x = new NorthWheel();
        x.set(3, -35);
        x.set(2, 99);
        c.due("turn", x.run(1, false), 36000 - 3465);
        x.set(3, 1);
        x.set(2, 3);
        c.due("rudder as it is", x.run(500, false), 36000 - 3465 + 1500);
        c.due("rudder stays", x.count(2), 51);
        c.due("ticks", x.count(0), 501);
        // steered, by a pointer that is dead and shows 0, for 0: she is not out
        c.due("steered", x.run(1, true), 36000 - 3465 + 1500);
        c.due("rudder steered", x.count(2), 50);
    }

    private static void runMovesEachKind() {
        c.says("Then each POINTER by its KIND");
        NorthWheel x = new NorthWheel();
        x.set(0, -50);
        x.kind(0, 1);
        x.run(1, false);
        // 25 times -50 by 90 is -13.9, cut -13, less
        c.due("free", x.now(0, 0), 50013);
        c.due("free has no rate", x.now(0, 1), 50000);
        x.off(0, 17990);
        x.run(1, false);
        c.due("free round", x.now(0, 0), 50000 - 17997);
        x.set(0, 18);
        x.off(0, -17998);
        x.run(1, false);
        c.due("free, 450 by 90", x.now(0, 0), 50000 + 36000 - 18003);
        x.set(0, -50);
        // hold 40: 10 times 40 times -7000 by 9000 is -311.1
        x.kind(1, 2);
        x.off(1, -7000);
        x.tune(1, 2, 99);
        x.set(3, 10);
        x.run(1, false);
        c.due("seeking is not kicked or damped", x.now(1, 1), 50311);
        c.due("seeking", x.now(1, 0), 50000 - 6689);
        dampedGoesAboutLean();
        leanGoesRound();
        rateIsBounded();
    }

    private static void leanGoesRound() {
        c.says("as what is OFF is told");
        NorthWheel x = new NorthWheel();
        x.kind(0, 3);
        x.tune(0, 0, 99);
        x.set(0, 89);
        x.set(1, 25);
        x.run(1, false);
        // lean is 25 times 90 times 20: 45000, a circle and 9000; out -9000: 99 times 1 times -9000 by 9000
        c.due("the shorter way", x.now(0, 1), 50000 + 99 - 19);
        x.set(1, 0);
        x.tune(0, 2, 99);
        x.off(0, 17999);
        x.sea(200);
        x.run(1, false);
        // 99 times 17999 by 9000 is 197.9: -197 + 39 + 198 is 40
        c.due("round", x.now(0, 0), 50000 - 17961);
    }

    private static void dampedGoesAboutLean() {
        c.says("OFF less the LEAN of the SHIP as it heads now");
        for (int kind = 3; kind <= 4; kind++) {
            NorthWheel x = new NorthWheel();
            x.kind(2, kind);
            x.tune(2, 2, 30);
            x.set(0, 45);
            x.set(1, 40);
            x.head(17900);
            x.set(3, 1);
            x.sea(81);
            x.run(1, false);
            // turn 101: heading 18001, 179 degrees cut: 40 times -89 times 20 by 45 is -1582
            // out 1582: 10 times 45 times 1582 by 9000 is 79; -79 + 15 damped; 101 times 30 by 100 is 30
            c.due("rate of kind " + kind, x.now(2, 1), 50000 - 79 + 15 + 30);
            c.due("off of kind " + kind, x.now(2, 0), 50000 - 79 + 15 + 30);
        }
    }

    private static void rateIsBounded() {
        c.says("then it is -9999 at least, 9999 at most; OFF is RATE more.");
        NorthWheel x = new NorthWheel();
        x.kind(0, 2);
        x.kind(1, 2);
        x.tune(0, 0, 99);
        x.tune(1, 0, 99);
        x.off(0, -18000);
        x.off(1, 17999);
        x.run(1, false);
        c.due("rate at most", x.now(0, 1), 59999);
        c.due("off", x.now(0, 0), 50000 - 8001);
        c.due("rate at least", x.now(1, 1), 40001);
        c.due("off", x.now(1, 0), 58000);
    }

    private static void runIsBounded() {
        c.says("OUTSIDE: also beyond 5000.");
        NorthWheel x = new NorthWheel();
        c.due("run 0", x.run(0, false), NorthWheel.OUTSIDE);
        c.due("run -1", x.run(-1, true), NorthWheel.OUTSIDE);
        c.due("run 501", x.run(501, true), NorthWheel.OUTSIDE);
        for (int k = 0; k < 9; k++) {
            x.run(500, false);
        }
        x.run(499, false);
        c.due("beyond 5000", x.run(2, false), NorthWheel.OUTSIDE);
        c.due("ticks", x.count(0), 4999);
        c.due("to 5000", x.run(1, false), 0);
        c.due("no more", x.run(1, true), NorthWheel.OUTSIDE);
        c.due("ticks", x.count(0), 5000);
    }
}
