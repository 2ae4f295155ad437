/** The edges that the document's first part names, sentence by sentence: ship, pointers and ticks. */
public final class ShipEdgesTest {
    private static final int OUTSIDE = NorthWheel.OUTSIDE;
    private static final Checks c = new Checks();

    public static void main(String[] args) {
        headingGoesRound();
        offGoesRound();
        holdAtItsEnds();
        leanByDegrees();
        leanIsCut();
        kindLaysOffAndRate();
        showsGoesRound();
        correctedShows();
        correctedGoesRound();
        deadShows();
        ironShows();
        deviationBetween();
        deviationIsCut();
        turnAtItsEnds();
        yawsComeRound();
        seasFullAndEmpty();
        freeIsCut();
        pullIsCut();
        outIsFromLean();
        outGoesRound();
        dampIsCut();
        kickIsCut();
        rateAtItsEnds();
        rateIsBoundedLast();
        deadAndIronLieStill();
        ticksAtTheirEnd();
        c.end();
    }

    private static NorthWheel pointerOf(int kind, int off) {
        NorthWheel x = new NorthWheel();
        x.kind(0, kind);
        x.off(0, off);
        return x;
    }

    private static int offOf(NorthWheel x) {
        return x.now(0, 0) - 50000;
    }

    private static int rateOf(NorthWheel x) {
        return x.now(0, 1) - 50000;
    }

    private static void headingGoesRound() {
        c.says("35999, what is OFF -18000 .. 17999 (each number is brought there by whole circles).");
        NorthWheel x = new NorthWheel();
        x.head(35998);
        x.sea(1);
        c.due("to the last", x.run(1, false), 35999);
        c.due("beyond the last", x.run(1, false), 0);
        x.calm();
        x.sea(-1);
        c.due("below 0", x.run(1, false), 35999);
        c.due("and on", x.run(1, false), 35998);
    }

    private static void offGoesRound() {
        c.says("35999, what is OFF -18000 .. 17999 (each number is brought there by whole circles).");
        NorthWheel free = pointerOf(1, 17998);
        free.set(0, -4);
        free.run(1, false);
        c.due("free, to the last", offOf(free), 17999);
        free.run(1, false);
        c.due("free, beyond the last", offOf(free), -18000);
        free.set(0, 4);
        free.run(1, false);
        c.due("free, back", offOf(free), 17999);
        for (int kind = 3; kind <= 4; kind++) {
            NorthWheel x = pointerOf(kind, 17999);
            x.tune(0, 0, 0);
            x.tune(0, 1, 99);
            x.tune(0, 2, 50);
            x.sea(2);
            x.run(1, false);
            c.due("kicked beyond the last, kind " + kind, offOf(x), -18000);
            x.calm();
            x.sea(-4);
            x.run(1, false);
            c.due("kicked back, kind " + kind, offOf(x), 17999);
        }
        NorthWheel seeking = pointerOf(2, -18000);
        seeking.tune(0, 0, 99);
        seeking.run(1, false);
        seeking.tune(0, 0, 0);
        // it goes on by 9999 a tick: -8001, 1998, 11997, 21996
        seeking.run(3, false);
        c.due("seeking, beyond the last", offOf(seeking), 21996 - 36000);
    }

    private static void holdAtItsEnds() {
        c.says("HOLD is 90 less PLACE without sign.");
        NorthWheel x = new NorthWheel();
        int[][] leans = {{0, 20}, {1, 20}, {-1, 20}, {45, 40}, {-45, 40}, {88, 900}, {-88, 900}, {89, 1800}, {-89, 1800}};
        for (int[] l : leans) {
            c.due("lean at " + l[0], x.lean(1, l[0], 0), 100000 + l[1]);
        }
        int[] places = {0, 89, -89};
        int[] rates = {-6930, -77, -77};
        for (int k = 0; k < places.length; k++) {
            NorthWheel y = pointerOf(2, 7000);
            y.tune(0, 0, 99);
            y.set(0, places[k]);
            y.run(1, false);
            // 99 times 90 times 7000 by 9000 is 6930, 99 times 1 times 7000 by 9000 is 77
            c.due("rate at " + places[k], rateOf(y), rates[k]);
        }
    }

    private static void leanByDegrees() {
        c.says("the degrees, cut, by which HEADING is from 0, the shorter way: 0 .. 180");
        NorthWheel x = new NorthWheel();
        int[][] degrees = {{0, 0}, {99, 0}, {100, 1}, {8999, 89}, {9000, 90}, {9099, 90}, {9100, 91}, {17899, 178}, {17900, 179},
            {17999, 179}, {18000, 180}, {18001, 179}, {18100, 179}, {18101, 178}, {26900, 91}, {26901, 90}, {27000, 90},
            {27001, 89}, {35900, 1}, {35901, 0}, {35999, 0}};
        for (int[] d : degrees) {
            c.due("lean at heading " + d[0], x.lean(9, 0, d[0]), 100000 + 2 * (90 - d[1]));
        }
    }

    private static void leanIsCut() {
        c.says("By CUT a quotient is cut towards 0.");
        NorthWheel x = new NorthWheel();
        // 1 times 1 times 20 by 19, 20, 21 of HOLD; and as much below 0
        int[] places = {71, 70, 69};
        int[] leans = {1, 1, 0};
        for (int k = 0; k < places.length; k++) {
            c.due("lean above 0", x.lean(1, places[k], 8900), 100000 + leans[k]);
            c.due("lean below 0", x.lean(1, -places[k], 9100), 100000 - leans[k]);
        }
        c.due("the greatest", x.lean(40, 89, 0), 100000 + 72000);
        c.due("the least", x.lean(40, 89, 18000), 100000 - 72000);
    }

    private static void kindLaysOffAndRate() {
        c.says("OFF and RATE, both 0 at first, and when its KIND is told.");
        for (int kind = 0; kind <= 5; kind++) {
            NorthWheel x = pointerOf(2, 5000);
            x.run(1, false);
            c.holds("it was off and going", offOf(x) != 0 && rateOf(x) != 0);
            c.due("kind", x.kind(0, kind), 2);
            c.due("OFF as kind " + kind, offOf(x), 0);
            c.due("RATE as kind " + kind, rateOf(x), 0);
        }
    }

    private static void showsGoesRound() {
        c.says("It SHOWS a HEADING: HEADING less OFF");
        int[][] shown = {{0, 0, 0}, {0, 1, 35999}, {35999, -1, 0}, {18000, -18000, 0}, {17999, -18000, 35999},
            {17999, 17999, 0}, {0, 17999, 18001}, {35999, -18000, 17999}, {17998, 17999, 35999}};
        for (int kind = 1; kind <= 4; kind++) {
            for (int[] s : shown) {
                NorthWheel x = pointerOf(kind, s[1]);
                x.head(s[0]);
                c.due("kind " + kind + " at " + s[0] + " off " + s[1], x.shows(0), s[2]);
            }
        }
    }

    private static void correctedShows() {
        c.says("LEAN of the SPEED and PLACE that it was told (0, 0 at first), and of just that (HEADING less OFF) as the HEADING");
        NorthWheel x = pointerOf(4, 9000);
        x.set(0, 60);
        x.set(1, 40);
        x.head(9000);
        c.due("told nothing", x.shows(0), 0);
        x.told(0, 9, 0);
        c.due("lean as of heading 0, not of 9000, not of the ship's place and speed", x.shows(0), 180);
        x.off(0, -9000);
        c.due("lean as of heading 18000", x.shows(0), 17820);
        x.told(0, 0, 0);
        c.due("told no speed", x.shows(0), 18000);
    }

    private static void correctedGoesRound() {
        c.says("CORRECTED: that and, added, LEAN of the SPEED and PLACE that it was told");
        NorthWheel x = pointerOf(4, 0);
        // 20 and 40 times 90 times 20: a circle and two, at 18000 as many back
        int[][] shown = {{20, 0, 0}, {40, 0, 0}, {40, 18000, 18000}, {20, 18000, 18000}, {1, 35990, 1790},
            {40, 12000, 24000}, {40, 10000, 2000}, {40, 9999, 2799}};
        for (int[] s : shown) {
            x.told(0, s[0], 89);
            x.head(s[1]);
            c.due("told " + s[0] + " at " + s[1], x.shows(0), s[2]);
        }
        x.told(0, 1, 0);
        int[][] near = {{35979, 35999}, {35980, 0}, {35999, 19}, {0, 20}};
        for (int[] s : near) {
            x.head(s[0]);
            c.due("20 more than " + s[0], x.shows(0), s[1]);
        }
    }

    private static void deadShows() {
        c.says("DEAD: 0 always");
        NorthWheel x = pointerOf(0, 17999);
        x.told(0, 40, 80);
        for (int k = 0; k < 8; k++) {
            x.iron(k, 2000);
        }
        for (int heading : new int[] {0, 1, 18000, 35999}) {
            x.head(heading);
            c.due("at " + heading, x.shows(0), 0);
        }
        x.set(3, 20);
        x.run(9, false);
        c.due("behind ticks", x.shows(0), 0);
    }

    private static void ironShows() {
        c.says("IRON: HEADING less the DEVIATION there.");
        NorthWheel x = pointerOf(5, 5000);
        for (int k = 0; k < 8; k++) {
            x.iron(k, 2000);
        }
        int[][] shown = {{0, 34000}, {1999, 35999}, {2000, 0}, {35999, 33999}};
        for (int[] s : shown) {
            x.head(s[0]);
            c.due("2000 less than " + s[0], x.shows(0), s[1]);
        }
        for (int k = 0; k < 8; k++) {
            x.iron(k, -2000);
        }
        int[][] more = {{0, 2000}, {33999, 35999}, {34000, 0}, {35999, 1999}};
        for (int[] s : more) {
            x.head(s[0]);
            c.due("2000 more than " + s[0], x.shows(0), s[1]);
        }
        x.kind(2, 5);
        c.due("of all IRON ones", x.shows(2), 1999);
    }

    private static void deviationBetween() {
        c.says("The DEVIATION is told at eight HEADINGS (0, 4500, .. 31500; -2000 .. 2000 each, of all IRON ones; 0 at first)");
        for (int k = 0; k < 8; k++) {
            NorthWheel x = new NorthWheel();
            x.iron(k, 900);
            int next = (k + 1) % 8, last = (k + 7) % 8;
            for (int other = 0; other < 8; other++) {
                c.due("told at " + k + ", at " + other, x.deviation(4500 * other), other == k ? 50900 : 50000);
            }
            c.due("half way to the next", x.deviation(4500 * k + 2250), 50450);
            c.due("half way from the last", x.deviation(4500 * last + 2250), 50450);
            c.due("just ahead of the next", x.deviation(4500 * k + 4499), 50001);
            c.due("just beyond the last", x.deviation(4500 * last + 5), 50001);
            c.due("half way beyond the next", x.deviation(4500 * next + 2250), 50000);
        }
    }

    private static void deviationIsCut() {
        c.says("(the difference times what is beyond, by 4500, CUT, more)");
        NorthWheel x = new NorthWheel();
        x.iron(0, -2000);
        x.iron(1, 2000);
        x.iron(2, -2000);
        // 4000 times 1 by 4500 is 0.9, times 2 is 1.8; times 4499 is 3999.1
        c.due("up by 1", x.deviation(1), 48000);
        c.due("up by 2", x.deviation(2), 48001);
        c.due("up, just ahead", x.deviation(4499), 51999);
        c.due("down by 1", x.deviation(4501), 52000);
        c.due("down by 2", x.deviation(4502), 51999);
        c.due("down, just ahead", x.deviation(8999), 48001);
        x.iron(7, 2000);
        c.due("round, just ahead of 0", x.deviation(35999), 48001);
        c.due("at 0", x.deviation(0), 48000);
    }

    private static void turnAtItsEnds() {
        c.says("the SHIP's TURN is RUDDER times AGILE, and the YAW of this TICK");
        NorthWheel x = new NorthWheel();
        x.set(2, 99);
        x.set(3, 35);
        x.sea(999);
        c.due("the greatest", x.run(1, false), 4464);
        x.calm();
        x.sea(-999);
        x.set(3, -35);
        c.due("the least", x.run(1, false), 0);
        c.due("the least again", x.run(1, false), 36000 - 4464);
        x.set(2, 0);
        x.calm();
        c.due("not agile", x.run(1, false), 36000 - 4464);
    }

    private static void yawsComeRound() {
        c.says("(YAW number TICKS modulo how many there are; 0 without)");
        for (int size : new int[] {1, 2, 23, 24}) {
            NorthWheel x = new NorthWheel();
            for (int k = 0; k < size; k++) {
                x.sea(k + 1);
            }
            int heading = 0;
            for (int tick = 0; tick < 50; tick++) {
                heading += tick % size + 1;
                c.due("tick " + tick + " of " + size + " yaws", x.run(1, false), heading);
            }
        }
        NorthWheel y = new NorthWheel();
        c.due("without", y.run(5, false), 0);
        y.sea(10);
        y.sea(200);
        y.sea(300);
        c.due("tick 5 of three", y.run(1, false), 300);
        c.due("tick 6 of three", y.run(1, false), 310);
        y.calm();
        c.due("without again", y.run(7, false), 310);
    }

    private static void seasFullAndEmpty() {
        c.says("A YAW more of SEAS: how many. OUTSIDE; FULL.");
        NorthWheel x = new NorthWheel();
        for (int round = 0; round < 2; round++) {
            c.due("none", x.count(3), 0);
            for (int k = 1; k <= 24; k++) {
                c.due("yaw " + k, x.sea(k), k);
            }
            c.due("yaw 25", x.sea(25), NorthWheel.FULL);
            c.due("24", x.count(3), 24);
            c.says("SEAS are none: how many there were.");
            c.due("calm", x.calm(), 24);
            c.due("calm again", x.calm(), 0);
        }
    }

    private static void freeIsCut() {
        c.says("FREE: OFF is 25 times PLACE by 90, CUT, less.");
        int[][] ways = {{0, 0}, {3, 0}, {4, 1}, {7, 1}, {8, 2}, {18, 5}, {89, 24}};
        for (int[] w : ways) {
            NorthWheel x = pointerOf(1, 0);
            x.set(0, w[0]);
            x.run(1, false);
            c.due("at " + w[0], offOf(x), -w[1]);
            x.set(0, -w[0]);
            x.run(2, false);
            c.due("at -" + w[0], offOf(x), w[1]);
            c.due("no RATE", rateOf(x), 0);
        }
    }

    private static void pullIsCut() {
        c.says("RATE is less by PULL times HOLD times what it is out by 9000, CUT");
        int[][] pulls = {{99, 0}, {100, 1}, {199, 1}, {200, 2}};
        for (int kind = 2; kind <= 4; kind++) {
            for (int[] p : pulls) {
                for (int sign = -1; sign <= 1; sign += 2) {
                    NorthWheel x = pointerOf(kind, sign * p[0]);
                    x.tune(0, 0, 1);
                    x.tune(0, 1, 0);
                    x.run(1, false);
                    c.due("kind " + kind + " out " + sign * p[0], rateOf(x), -sign * p[1]);
                    c.due("OFF is RATE more", offOf(x), sign * (p[0] - p[1]));
                }
            }
        }
        NorthWheel y = pointerOf(2, -18000);
        y.tune(0, 0, 0);
        y.run(1, false);
        c.due("without PULL", offOf(y), -18000);
    }

    private static void outIsFromLean() {
        c.says("out: SEEKING: OFF; else OFF less the LEAN of the SHIP as it heads now, as what is OFF is told");
        for (int kind = 2; kind <= 4; kind++) {
            NorthWheel x = pointerOf(kind, 0);
            x.tune(0, 0, 50);
            x.tune(0, 1, 0);
            x.set(1, 40);
            x.head(9099);
            x.sea(1);
            x.run(1, false);
            // at 9099 there is no lean; now at 9100 it is 40 times -1 times 20 by 90: -8; out 8: 4
            c.due("as it heads now, kind " + kind, rateOf(x), kind == 2 ? 0 : -4);
        }
    }

    private static void outGoesRound() {
        c.says("out: SEEKING: OFF; else OFF less the LEAN of the SHIP as it heads now, as what is OFF is told");
        // at place 89 lean is speed times 1800, at heading 18000 as much below 0; PULL 90: out by 100
        int[][] outs = {{10, 0, 0, -18000}, {10, 18000, 0, -18000}, {10, 0, -100, 17900}, {10, 0, 100, -17900},
            {20, 0, 0, 0}, {40, 0, 500, 500}, {40, 18000, -500, -500}, {9, 0, -1900, 17900}, {9, 0, -1800, -18000}};
        for (int kind = 3; kind <= 4; kind++) {
            for (int[] o : outs) {
                NorthWheel x = pointerOf(kind, o[2]);
                x.tune(0, 0, 90);
                x.tune(0, 1, 0);
                x.set(0, 89);
                x.set(1, o[0]);
                x.head(o[1]);
                x.run(1, false);
                c.due("kind " + kind + " speed " + o[0] + " at " + o[1] + " off " + o[2], rateOf(x), -o[3] / 100);
            }
        }
    }

    private static void dampIsCut() {
        c.says("then (not SEEKING) less by RATE times DAMP by 100, CUT");
        // RATE ahead of it 1 or 2
        int[][] damps = {{1, 99, 1}, {2, 99, 1}, {2, 50, 1}, {2, 49, 2}, {2, 0, 2}};
        for (int[] d : damps) {
            for (int sign = -1; sign <= 1; sign += 2) {
                for (int kind = 2; kind <= 4; kind++) {
                    NorthWheel x = pointerOf(kind, sign * 100 * d[0]);
                    x.tune(0, 0, 1);
                    x.tune(0, 1, d[1]);
                    x.run(1, false);
                    c.due("kind " + kind + " RATE " + d[0] + " DAMP " + d[1], rateOf(x), -sign * (kind == 2 ? d[0] : d[2]));
                }
            }
        }
    }

    private static void kickIsCut() {
        c.says("then (not SEEKING) more by TURN times KICK by 100, CUT");
        int[][] kicks = {{1, 99, 0}, {2, 49, 0}, {2, 50, 1}, {999, 99, 989}, {999, 0, 0}};
        for (int[] k : kicks) {
            for (int sign = -1; sign <= 1; sign += 2) {
                for (int kind = 2; kind <= 4; kind++) {
                    NorthWheel x = pointerOf(kind, 0);
                    x.tune(0, 1, 99);
                    x.tune(0, 2, k[1]);
                    x.sea(sign * k[0]);
                    x.run(1, false);
                    c.due("kind " + kind + " TURN " + sign * k[0] + " KICK " + k[1], rateOf(x), kind == 2 ? 0 : sign * k[2]);
                }
            }
        }
    }

    private static void rateAtItsEnds() {
        c.says("then it is -9999 at least, 9999 at most; OFF is RATE more.");
        // 99 times OFF by 100
        int[][] rates = {{10098, 9997}, {10099, 9998}, {10100, 9999}, {10101, 9999}, {10102, 9999}, {17999, 9999}};
        for (int kind = 2; kind <= 4; kind++) {
            for (int[] r : rates) {
                for (int sign = -1; sign <= 1; sign += 2) {
                    NorthWheel x = pointerOf(kind, -sign * r[0]);
                    x.tune(0, 0, 99);
                    x.tune(0, 1, 0);
                    x.run(1, false);
                    c.due("kind " + kind + " from " + -sign * r[0], rateOf(x), sign * r[1]);
                    c.due("kind " + kind + " comes", offOf(x), sign * (r[1] - r[0]));
                }
            }
        }
    }

    private static void rateIsBoundedLast() {
        c.says("then it is -9999 at least, 9999 at most; OFF is RATE more.");
        // off 10203: 10100; damped by 1 part in 100: 101 less; a turn of 202 by half: 101
        int[][] lasts = {{0, -202, 9999}, {0, 202, 9999}, {1, 0, 9999}, {0, -204, 9998}, {1, -2, 9998}};
        for (int[] l : lasts) {
            for (int sign = -1; sign <= 1; sign += 2) {
                NorthWheel x = pointerOf(3, -sign * 10203);
                x.tune(0, 0, 99);
                x.tune(0, 1, l[0]);
                x.tune(0, 2, 50);
                x.sea(sign * l[1]);
                x.run(1, false);
                c.due("DAMP " + l[0] + " TURN " + sign * l[1], rateOf(x), sign * l[2]);
            }
        }
    }

    private static void deadAndIronLieStill() {
        c.says("Then each POINTER by its KIND");
        for (int kind : new int[] {0, 5}) {
            NorthWheel x = pointerOf(kind, 7777);
            x.set(0, 60);
            x.set(1, 30);
            x.set(3, 9);
            x.tune(0, 2, 50);
            x.run(20, false);
            c.due("OFF of kind " + kind, offOf(x), 7777);
            c.due("RATE of kind " + kind, rateOf(x), 0);
        }
    }

    private static void ticksAtTheirEnd() {
        c.says("TICKS are counted (0 at first; 5000 at most).");
        NorthWheel x = new NorthWheel();
        c.due("at first", x.count(0), 0);
        for (int k = 1; k <= 10; k++) {
            c.due("500 more", x.run(500, k % 2 == 0), 0);
            c.due("TICKS", x.count(0), 500 * k);
        }
        c.due("one more", x.run(1, false), OUTSIDE);
        c.due("500 more", x.run(500, false), OUTSIDE);
        c.due("TICKS", x.count(0), 5000);
    }
}
