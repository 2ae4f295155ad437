/** Promises 22 to 27: swings, turns, keeping. */
public final class SwingTest {
    private static final Checks c = new Checks();

    public static void main(String[] args) {
        swingWorkedByHand();
        swingAsTheShipGoes();
        swingRefused();
        noUse();
        turned();
        bestPull();
        kept();
        keptAsTheShipRuns();
        bestDead();
        c.end();
    }

    private static void swingWorkedByHand() {
        c.says("SWING of a POINTER from an OFF (-9000 .. 9000, not 0), DAMPED or SEEKING (damped false): CROSSES "
            + "(what 0), BEYOND and 50000 (1), RESTS (2); NONE. UNKNOWN; OUTSIDE.");
        NorthWheel x = new NorthWheel();
        x.tune(0, 0, 99);
        x.tune(0, 1, 0);
        // from 100: rate -99, off 1; rate -99 - 0, off -98; rate -2, off -100; then +97 ..
        c.due("crosses", x.swing(0, 100, true, 0), 2);
        c.due("crosses from below", x.swing(0, -100, true, 0), 2);
        c.due("rests at once", x.swing(0, 100, true, 2), 0);
        x.tune(0, 0, 50);
        x.tune(0, 1, 99);
        // from 4: rate -2, less -1 (198 by 100 cut): off 3; the same: 2, 1; then rate -1, less 0: off 0
        c.due("crosses slowly", x.swing(0, 4, true, 0), 4);
        x.tune(0, 0, 0);
        for (int what = 0; what < 3; what++) {
            c.due("without pull", x.swing(0, 101, true, what), NorthWheel.NONE);
        }
        c.due("rests as it lies", x.swing(0, 100, false, 2), 0);
        x.tune(1, 0, 50);
        x.tune(1, 1, 0);
        // from 2: rate -1, off 1; 50 by 100 cut is 0: rate -1, off 0
        c.due("crosses at 0", x.swing(1, 2, true, 0), 2);
        c.due("crosses at 0 from below", x.swing(1, -2, false, 0), 2);
    }

    /** The same by letting a ship of its own go on, tick by tick. */
    private static void swingAsTheShipGoes() {
        c.says("SWING of a POINTER (its PULL, DAMP; SEEKING or DAMPED as told) alone in a SHIP that lies still "
            + "(SPEED 0, no TURN) at THE PLACE, from a told OFF with RATE 0");
        int[] places = {0, -60, 88};
        int[] froms = {3000, -9000, 101, -1, 1};
        for (int place : places) {
            for (int from : froms) {
                for (int damp = 0; damp <= 60; damp += 30) {
                    compareSwing(place, from, damp, true);
                    compareSwing(place, from, damp, false);
                }
            }
        }
    }

    private static void compareSwing(int place, int from, int damp, boolean damped) {
        int[] path = path(place, from, damp, damped);
        int crosses = -1, beyond = 0, lastAwake = Math.abs(from) > 100 ? 0 : -1;
        for (int tick = 1; tick <= 600; tick++) {
            int off = path[tick];
            if (crosses < 0 && (off == 0 || off > 0 != from > 0)) {
                crosses = tick;
                beyond = off;
            }
            if (crosses >= 0 && Math.abs(off) > Math.abs(beyond)) {
                beyond = off;
            }
            if (Math.abs(off) > 100) {
                lastAwake = tick;
            }
        }
        NorthWheel y = new NorthWheel();
        y.set(0, place);
        y.set(1, 40);
        y.set(3, 5);
        y.sea(500);
        y.tune(2, 0, 37);
        y.tune(2, 1, damp);
        y.tune(2, 2, 50);
        String told = " at " + place + " from " + from + " damp " + damp + (damped ? " damped" : " seeking");
        c.due("crosses" + told, y.swing(2, from, damped, 0), crosses);
        c.due("beyond" + told, y.swing(2, from, damped, 1), crosses < 0 ? -1 : beyond + 50000);
        c.due("rests" + told, y.swing(2, from, damped, 2), lastAwake == 600 ? -1 : lastAwake + 1);
        c.due("nothing is changed", y.now(2, 0), 50000);
        c.due("nothing is changed", y.count(0), 0);
    }

    /** OFF behind each tick, by three ships one behind the other: an object is promised 512 calls alone. */
    private static int[] path(int place, int from, int damp, boolean damped) {
        int[] path = new int[601];
        path[0] = from;
        for (int ahead = 0; ahead < 600; ahead += 200) {
            NorthWheel x = new NorthWheel();
            x.set(0, place);
            x.tune(2, 0, 37);
            x.tune(2, 1, damp);
            x.kind(2, damped ? 3 : 2);
            x.off(2, from);
            x.run(ahead, false);
            for (int tick = ahead + 1; tick <= ahead + 200; tick++) {
                x.run(1, false);
                path[tick] = x.now(2, 0) - 50000;
            }
        }
        return path;
    }

    private static void swingRefused() {
        c.says("SWING of a POINTER from an OFF (-9000 .. 9000, not 0), DAMPED or SEEKING (damped false): CROSSES "
            + "(what 0), BEYOND and 50000 (1), RESTS (2); NONE. UNKNOWN; OUTSIDE.");
        NorthWheel x = new NorthWheel();
        c.due("swing of 3", x.swing(3, 0, true, 9), NorthWheel.UNKNOWN);
        c.due("swing of -1", x.swing(-1, 1, true, 0), NorthWheel.UNKNOWN);
        c.due("from 0", x.swing(0, 0, true, 0), NorthWheel.OUTSIDE);
        c.due("from 9001", x.swing(0, 9001, true, 0), NorthWheel.OUTSIDE);
        c.due("from -9001", x.swing(0, -9001, true, 0), NorthWheel.OUTSIDE);
        c.due("what 3", x.swing(0, 1, true, 3), NorthWheel.OUTSIDE);
        c.due("what -1", x.swing(0, 1, true, -1), NorthWheel.OUTSIDE);
        c.holds("9000 may be", x.swing(0, 9000, true, 0) >= 0 && x.swing(0, -9000, true, 0) >= 0);
    }

    private static void noUse() {
        c.says("NO USE of a POINTER; NONE. UNKNOWN.");
        int[][] tunes = {{10, 20}, {20, 20}, {99, 0}, {0, 50}, {3, 10}, {99, 30}, {60, 99}, {1, 1}, {9, 22}};
        for (int[] tune : tunes) {
            NorthWheel x = new NorthWheel();
            x.tune(1, 0, tune[0]);
            x.tune(1, 1, tune[1]);
            int want = -1;
            for (int place = 89; place >= 0; place--) {
                x.set(0, -place);
                if (x.swing(1, 3000, true, 2) == NorthWheel.NONE) {
                    want = place;
                }
            }
            c.due("no use of pull " + tune[0] + " damp " + tune[1], x.noUse(1), want);
            x.set(0, 70);
            c.due("wherever she is", x.noUse(1), want);
        }
        NorthWheel y = new NorthWheel();
        y.tune(2, 0, 99);
        y.tune(2, 1, 20);
        c.due("of use even at 89", y.noUse(2), NorthWheel.NONE);
        c.due("no use of 3", y.noUse(3), NorthWheel.UNKNOWN);
        c.due("no use of -1", y.noUse(-1), NorthWheel.UNKNOWN);
    }

    private static void turned() {
        c.says("TURNED of a POINTER, with its own PULL. UNKNOWN; OUTSIDE.");
        NorthWheel x = new NorthWheel();
        x.tune(0, 2, 50);
        // turn -300: rate -150, off -150; rate -150 + 15, damped -108, -150 more: -258, off -408
        c.due("one tick", x.turned(0, 1, 1, -300), 150);
        c.due("two ticks", x.turned(0, 2, 2, -300), 408);
        c.due("no turn", x.turned(0, 300, 0, 999), 0);
        // second tick without the turn: rate -150 + 15 = -135, damped -108: off -258
        c.due("first tick only", x.turned(0, 2, 1, -300), 258);
        c.due("first tick only, the other way", x.turned(0, 2, 1, 300), 258);
        x.set(0, 45);
        // hold 45: 10 times 45 times -150 by 9000 is -7.5: rate -150 + 7 = -143, less -28: -115
        c.due("at 45", x.turned(0, 2, 1, -300), 265);
        x.set(1, 40);
        x.off(0, 777);
        x.set(3, 9);
        x.sea(99);
        c.due("speed, off, rudder, seas are nothing to it", x.turned(0, 2, 1, -300), 265);
        c.due("turned of 3", x.turned(3, 0, 0, 0), NorthWheel.UNKNOWN);
        c.due("turned of -1", x.turned(-1, 1, 1, 1), NorthWheel.UNKNOWN);
        quickTurnRefused(x);
    }

    private static void quickTurnRefused(NorthWheel x) {
        int[][] outside = {{0, 0, 0}, {-1, 0, 0}, {301, 0, 0}, {10, 11, 0}, {10, -1, 0}, {10, 5, 1000}, {10, 5, -1000}};
        for (int[] o : outside) {
            c.due("turned", x.turned(1, o[0], o[1], o[2]), NorthWheel.OUTSIDE);
            c.due("bestPull", x.bestPull(1, o[0], o[1], o[2]), NorthWheel.OUTSIDE);
        }
        c.holds("300 may be", x.turned(0, 300, 300, 999) >= 0 && x.bestPull(0, 300, 300, -999) >= 1);
    }

    private static void bestPull() {
        c.says("BEST PULL of a POINTER. UNKNOWN; OUTSIDE.");
        int[][] turns = {{300, 5, 300}, {60, 60, -40}, {20, 3, 999}, {300, 200, 9}, {1, 1, 500}, {40, 0, 5}};
        for (int[] t : turns) {
            for (int kick = 0; kick <= 90; kick += 45) {
                NorthWheel x = new NorthWheel();
                x.set(0, -30);
                x.tune(1, 1, 8);
                x.tune(1, 2, kick);
                int got = x.bestPull(1, t[0], t[1], t[2]);
                c.due("pull stays", x.tune(1, 0, 10), 10);
                int want = 1, least = Integer.MAX_VALUE;
                for (int pull = 99; pull >= 1; pull--) {
                    x.tune(1, 0, pull);
                    int greatest = x.turned(1, t[0], t[1], t[2]);
                    if (greatest <= least) {
                        least = greatest;
                        want = pull;
                    }
                }
                c.due("best pull of turn " + t[2] + " kick " + kick, got, want);
            }
        }
        NorthWheel z = new NorthWheel();
        z.set(0, 39);
        z.tune(0, 1, 99);
        z.tune(0, 2, 88);
        c.due("neither the least nor the greatest", z.bestPull(0, 118, 62, -437), 2);
        NorthWheel y = new NorthWheel();
        c.due("without kick the least", y.bestPull(2, 50, 50, 999), 1);
        c.due("best pull of 3", y.bestPull(3, 0, 0, 0), NorthWheel.UNKNOWN);
        c.due("best pull of -1", y.bestPull(-1, 1, 1, 1), NorthWheel.UNKNOWN);
    }

    private static NorthWheel yawedShip() {
        NorthWheel x = new NorthWheel();
        x.kind(1, 4);
        x.kind(0, 3);
        x.tune(1, 2, 20);
        x.set(0, 50);
        x.set(1, 15);
        x.set(2, 30);
        x.told(1, 12, 48);
        x.sea(150);
        x.sea(-90);
        x.sea(-40);
        x.sea(35);
        x.sea(-80);
        x.course(3000);
        Checks.write(x, "gain 150;meet 200;every 2;by 1;dead 7;most 25");
        x.steerer();
        x.run(7, true);
        return x;
    }

    private static void kept() {
        c.says("KEPT: WORST (what 0), DEAR (1). OUTSIDE: n, dead (0 .. 999), what.");
        NorthWheel x = new NorthWheel();
        x.kind(0, 1);
        x.course(1000);
        // rudder 10 and 200 a tick; then 8, 6 (640), 5 (740) ..: 1000, 800, 640, 520 ..
        c.due("worst of one tick", x.kept(1, 0, 0), 800);
        c.due("dear of one tick", x.kept(1, 0, 1), 10);
        c.due("worst of the second of two", x.kept(2, 0, 0), 640);
        c.due("dear of two", x.kept(2, 0, 1), 18);
        c.due("worst of the second and third of three", x.kept(3, 0, 0), 640);
        c.due("dear of three", x.kept(3, 0, 1), 24);
        c.due("dead 99: she is out by more", x.kept(1, 99, 1), 10);
        c.due("dead 100", x.kept(1, 100, 1), 0);
        c.due("dead 100", x.kept(1, 100, 0), 1000);
        x.course(19000);
        // steered the other way round, worst is the shorter way
        c.due("worst at most half round", x.kept(1, 999, 0), 36000 - 19000 - 700);
        c.due("kept 0", x.kept(0, 0, 0), NorthWheel.OUTSIDE);
        c.due("kept 301", x.kept(301, 0, 0), NorthWheel.OUTSIDE);
        c.due("dead -1", x.kept(1, -1, 0), NorthWheel.OUTSIDE);
        c.due("dead 1000", x.kept(1, 1000, 0), NorthWheel.OUTSIDE);
        c.due("what -1", x.kept(1, 0, -1), NorthWheel.OUTSIDE);
        c.due("what 2", x.kept(1, 0, 2), NorthWheel.OUTSIDE);
        c.due("nothing is changed", x.count(1), 0);
        c.due("nothing is changed", x.count(0), 0);
        c.due("nothing is changed", x.steers(0), 0);
        x.course(18000);
        c.due("half round", x.kept(1, 999, 0) + x.kept(1, 0, 1), 18000 - 700 + 35);
        c.holds("300 may be", x.kept(300, 999, 0) >= 0);
    }

    /** The same by letting the ship run; her own dead is told so that the run is the trial. */
    private static void keptAsTheShipRuns() {
        c.says("KEPT for n TICKS (1 .. 300) from now on, THE STEERER steering, with dead told instead of its own: "
            + "WORST: the greatest size of the COURSE less HEADING");
        for (int n = 1; n <= 41; n += 8) {
            NorthWheel x = yawedShip();
            int worst = x.kept(n, 7, 0), dear = x.kept(n, 7, 1);
            int seenWorst = 0, seenDear = 0;
            for (int tick = 1; tick <= n; tick++) {
                int out = Math.floorMod(3000 - x.run(1, true) + 18000, 36000) - 18000;
                seenDear += Math.abs(x.count(2) - 50);
                seenWorst = 2 * tick > n ? Math.max(seenWorst, Math.abs(out)) : 0;
            }
            c.due("worst of " + n, worst, seenWorst);
            c.due("dear of " + n, dear, seenDear);
        }
        NorthWheel y = new NorthWheel();
        for (int k = 0; k < 10; k++) {
            y.run(500, false);
        }
        c.due("kept beyond 5000", y.kept(300, 0, 0), 0);
    }

    private static void bestDead() {
        c.says("BEST DEAD for n TICKS with an allowance (0 .. 18000); NONE. OUTSIDE.");
        for (int allowance : new int[] {0, 60, 150, 200, 300, 500, 1000, 2999, 18000}) {
            for (int n : new int[] {1, 40, 300}) {
                NorthWheel x = yawedShip();
                int want = -1, least = 0;
                for (int dead = 0; dead <= 990; dead += 10) {
                    int dear = x.kept(n, dead, 1);
                    if (x.kept(n, dead, 0) <= allowance && (want < 0 || dear < least)) {
                        want = dead;
                        least = dear;
                    }
                }
                c.due("best dead for " + n + " within " + allowance, x.bestDead(n, allowance), want);
            }
        }
        NorthWheel x = yawedShip();
        c.due("n 0", x.bestDead(0, 0), NorthWheel.OUTSIDE);
        c.due("n 301", x.bestDead(301, 0), NorthWheel.OUTSIDE);
        c.due("allowance -1", x.bestDead(1, -1), NorthWheel.OUTSIDE);
        c.due("allowance 18001", x.bestDead(1, 18001), NorthWheel.OUTSIDE);
        c.due("dead stays", x.steers(0), 7);
        NorthWheel y = new NorthWheel();
        y.kind(0, 1);
        y.course(1000);
        c.due("100 answers no more", y.bestDead(1, 1000), 100);
        c.due("just not within", y.bestDead(1, 799), NorthWheel.NONE);
        c.due("of several the least", y.bestDead(1, 800), 0);
        y.course(9805);
        c.due("only 990 does not answer", y.bestDead(1, 18000), 990);
    }
}
