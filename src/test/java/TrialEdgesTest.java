/** The edges that the document's third part names, sentence by sentence: swings, turns, keeping. */
public final class TrialEdgesTest {
    private static final int NONE = NorthWheel.NONE;
    private static final int CROSSES = 0, BEYOND = 1, RESTS = 2, WORST = 0, DEAR = 1;
    private static final Checks c = new Checks();

    public static void main(String[] args) {
        crossesAtTheLast();
        crossesAtNought();
        beyondFromTheCrossingOn();
        beyondUpToTheLast();
        beyondTheFirstOfSeveral();
        restsWithinAHundred();
        restsAtTheLast();
        restsForGood();
        noneEach();
        swingsAloneAndStill();
        noUseAtItsEnds();
        noUseIsTheLeast();
        turnedWithoutSign();
        turnedInTheFirstTicks();
        turnedFromRest();
        turnedAsTheShipGoes();
        bestPullAtItsEnds();
        bestPullTheLeastOfSeveral();
        worstOfTheSecondHalf();
        worstOfTheLongest();
        worstGoesRound();
        dearOfAllTicks();
        deadToldInstead();
        keptFromNowOn();
        keptBeyondTheLastTick();
        bestDeadByTens();
        bestDeadWithin();
        bestDeadTheLeastOfSeveral();
        c.end();
    }

    private static NorthWheel tuned(int place, int pull, int damp, int kick) {
        NorthWheel x = new NorthWheel();
        x.set(0, place);
        x.tune(1, 0, pull);
        x.tune(1, 1, damp);
        x.tune(1, 2, kick);
        return x;
    }

    /** At 600 and more, 15 times OFF by 9000 is 1 (below 1200), and damped RATE is -1 all the way: one a tick. */
    private static NorthWheel oneATick() {
        return tuned(75, 1, 99, 0);
    }

    private static void dueSwing(NorthWheel x, int off, boolean damped, int what, int want) {
        c.due("swing from " + off + (damped ? " damped, " : " seeking, ") + what, x.swing(1, off, damped, what), want);
    }

    private static void crossesAtTheLast() {
        c.says("CROSSES: the first TICK behind which OFF is 0 or of the other sign");
        NorthWheel x = oneATick();
        dueSwing(x, 600, true, CROSSES, 600);
        dueSwing(x, -600, true, CROSSES, 600);
        dueSwing(x, 601, true, CROSSES, NONE);
        dueSwing(x, -601, true, CROSSES, NONE);
        NorthWheel y = tuned(89, 7, 20, 0);
        // behind 600 ticks it is 3 off, behind one more -1
        dueSwing(y, 4000, true, CROSSES, NONE);
        dueSwing(y, -4000, true, CROSSES, NONE);
    }

    private static void crossesAtNought() {
        c.says("CROSSES: the first TICK behind which OFF is 0 or of the other sign");
        NorthWheel x = tuned(0, 50, 0, 0);
        // from 2: RATE -1, OFF 1; RATE -1, OFF 0
        dueSwing(x, 2, true, CROSSES, 2);
        dueSwing(x, -2, true, CROSSES, 2);
        dueSwing(x, 2, false, CROSSES, 2);
        // from 1 the pull is cut to 0 and it stays
        dueSwing(x, 1, true, CROSSES, NONE);
        dueSwing(x, -1, false, CROSSES, NONE);
        NorthWheel y = tuned(0, 99, 0, 0);
        // from 200: RATE -198, OFF 2; RATE -199, OFF -197
        dueSwing(y, 200, true, CROSSES, 2);
        dueSwing(y, -200, false, CROSSES, 2);
    }

    private static void beyondFromTheCrossingOn() {
        c.says("BEYOND: OFF of the greatest size in the TICKS from there on (that one with them)");
        NorthWheel x = oneATick();
        // the crossing is the last tick too, and OFF is 0 there, whatever it was ahead
        dueSwing(x, 600, true, BEYOND, 50000);
        dueSwing(x, -600, true, BEYOND, 50000);
        NorthWheel y = tuned(0, 1, 58, 0);
        // one a tick from 151 through 0 to -100: there the pull is 1 and holds it
        dueSwing(y, 151, true, CROSSES, 151);
        dueSwing(y, 151, true, BEYOND, 49900);
    }

    private static void beyondUpToTheLast() {
        c.says("up to 600 TICKS in all");
        NorthWheel x = tuned(0, 34, 0, 0);
        // 383 behind 585 ticks; only behind 601 it would be -384
        dueSwing(x, 350, false, BEYOND, 50383);
        dueSwing(x, -350, false, BEYOND, 49617);
        NorthWheel y = tuned(0, 7, 0, 0);
        // 382 just behind 600
        dueSwing(y, 313, false, BEYOND, 50382);
        dueSwing(y, -313, false, BEYOND, 49618);
    }

    private static void beyondTheFirstOfSeveral() {
        c.says("of several the first; RESTS");
        NorthWheel x = tuned(0, 1, 58, 0);
        // to -100 and back to 100, as far: the first is told
        dueSwing(x, 151, true, BEYOND, 49900);
        dueSwing(x, -151, true, BEYOND, 50100);
        NorthWheel y = tuned(0, 1, 21, 0);
        dueSwing(y, 160, true, BEYOND, 49892);
        dueSwing(y, -160, true, BEYOND, 50108);
    }

    private static void restsWithinAHundred() {
        c.says("it is at most 100 OFF, without sign");
        NorthWheel x = tuned(0, 0, 20, 0);
        for (int sign = -1; sign <= 1; sign += 2) {
            dueSwing(x, sign * 100, true, RESTS, 0);
            dueSwing(x, sign * 100, false, RESTS, 0);
            dueSwing(x, sign * 101, true, RESTS, NONE);
            dueSwing(x, sign * 101, false, RESTS, NONE);
            dueSwing(x, sign, true, RESTS, 0);
        }
        NorthWheel y = tuned(0, 1, 99, 0);
        // 101: 1 a tick, so 100 behind the first; on to 0 and beyond to 100 on the other side
        dueSwing(y, 101, true, RESTS, 1);
        dueSwing(y, -101, true, RESTS, 1);
    }

    private static void restsAtTheLast() {
        c.says("RESTS: the least number of TICKS (0 .. 600) behind which, and behind each more up to 600");
        NorthWheel x = oneATick();
        for (int sign = -1; sign <= 1; sign += 2) {
            dueSwing(x, sign * 699, true, RESTS, 599);
            dueSwing(x, sign * 700, true, RESTS, 600);
            dueSwing(x, sign * 701, true, RESTS, NONE);
        }
    }

    private static void restsForGood() {
        c.says("RESTS: the least number of TICKS (0 .. 600) behind which, and behind each more up to 600");
        NorthWheel x = tuned(0, 50, 0, 0);
        // through 0 again and again, farther than 100 each time
        dueSwing(x, 3000, true, RESTS, NONE);
        dueSwing(x, 3000, false, RESTS, NONE);
        // from 98 it is within 100 at first, but 101 off behind 28 ticks, and again and again up to behind 551
        NorthWheel y = tuned(0, 2, 0, 0);
        dueSwing(y, 98, true, RESTS, 552);
        dueSwing(y, -98, true, RESTS, 552);
    }

    private static void noneEach() {
        c.says("none each");
        NorthWheel x = tuned(0, 0, 0, 0);
        for (int what = CROSSES; what <= RESTS; what++) {
            dueSwing(x, 9000, true, what, NONE);
            dueSwing(x, -9000, false, what, NONE);
        }
        // at rest though it never crosses
        dueSwing(x, 50, true, CROSSES, NONE);
        dueSwing(x, 50, true, BEYOND, NONE);
        dueSwing(x, 50, true, RESTS, 0);
    }

    private static void swingsAloneAndStill() {
        c.says("alone in a SHIP that lies still (SPEED 0, no TURN) at THE PLACE, from a told OFF with RATE 0");
        for (int kind = 0; kind <= 5; kind++) {
            NorthWheel x = tuned(-40, 23, 11, 99);
            NorthWheel y = tuned(40, 23, 11, 0);
            x.kind(1, kind);
            x.off(1, -17000);
            x.set(1, 40);
            x.set(2, 99);
            x.set(3, 35);
            x.sea(999);
            x.run(3, false);
            for (int what = CROSSES; what <= RESTS; what++) {
                c.due("damped", x.swing(1, 5000, true, what), y.swing(1, 5000, true, what));
                c.due("seeking", x.swing(1, -5000, false, what), y.swing(1, -5000, false, what));
            }
        }
        NorthWheel z = tuned(0, 23, 11, 0);
        c.holds("the place tells", z.swing(1, 5000, true, BEYOND) != tuned(80, 23, 11, 0).swing(1, 5000, true, BEYOND));
    }

    private static void noUseAtItsEnds() {
        c.says("NO USE: the least PLACE (0 .. 89) without sign at which, from OFF 3000, DAMPED, it does not REST so; none.");
        c.due("without pull at once", tuned(0, 0, 20, 0).noUse(1), 0);
        c.due("of use up to 88", tuned(0, 9, 22, 0).noUse(1), 89);
        c.due("of use everywhere", tuned(0, 99, 20, 0).noUse(1), NONE);
        // at 88 it rests just behind 600
        NorthWheel x = tuned(88, 21, 42, 0);
        dueSwing(x, 3000, true, RESTS, 600);
        c.due("of use where it rests at the last", x.noUse(1), 89);
        x.set(0, -89);
        dueSwing(x, 3000, true, RESTS, NONE);
        c.due("wherever the ship is", x.noUse(1), 89);
    }

    private static void noUseIsTheLeast() {
        c.says("NO USE: the least PLACE (0 .. 89) without sign at which, from OFF 3000, DAMPED, it does not REST so; none.");
        NorthWheel x = tuned(1, 1, 3, 0);
        dueSwing(x, 3000, true, RESTS, 600);
        x.set(0, 2);
        dueSwing(x, 3000, true, RESTS, NONE);
        x.set(0, 10);
        c.holds("farther on it rests again", x.swing(1, 3000, true, RESTS) >= 0);
        c.due("the least", x.noUse(1), 2);
        // from 2999 and from 3001 it would be another place
        int[][] froms = {{1, 7, 3}, {1, 20, 12}, {7, 4, 22}, {33, 9, 87}};
        for (int[] f : froms) {
            c.due("from 3000", tuned(0, f[0], f[1], 0).noUse(1), f[2]);
        }
    }

    private static void turnedWithoutSign() {
        c.says("TURNED: the greatest OFF (without sign) of a DAMPED POINTER with PULL, its DAMP and KICK");
        NorthWheel x = tuned(0, 0, 0, 99);
        // 506 times 99 by 100 is 500: 500, 1500, 3000 .. 14000, 18000, which is -18000; 22500, which is -13500
        for (int sign = -1; sign <= 1; sign += 2) {
            c.due("one tick", x.turned(1, 1, 1, sign * 506), 500);
            c.due("seven ticks", x.turned(1, 7, 7, sign * 506), 14000);
            c.due("just half round", x.turned(1, 8, 8, sign * 506), 18000);
            c.due("beyond half round", x.turned(1, 9, 9, sign * 506), 18000);
        }
        NorthWheel y = tuned(0, 10, 20, 0);
        c.due("without kick", y.turned(1, 300, 300, 999), 0);
    }

    private static void turnedInTheFirstTicks() {
        c.says("in n TICKS (1 .. 300) in the first k (0 .. n) of which the SHIP has a TURN of t (-999 .. 999)");
        NorthWheel x = tuned(0, 0, 0, 10);
        // RATE 10 a turned tick, and it stays: OFF is 10 behind 1, 30 behind 2; with k 1 it is 10 a tick
        c.due("none turned", x.turned(1, 300, 0, 100), 0);
        c.due("the first of one", x.turned(1, 1, 1, 100), 10);
        c.due("the first of 300", x.turned(1, 300, 1, 100), 3000);
        c.due("two of 300", x.turned(1, 300, 2, 100), 10 + 20 * 299);
        c.due("both of two", x.turned(1, 2, 2, 100), 30);
        c.due("a turn of 0", x.turned(1, 300, 300, 0), 0);
        x.tune(1, 2, 1);
        // RATE 1, 2, 3 .. 100: 5050
        c.due("all of 100", x.turned(1, 100, 100, 100), 5050);
    }

    private static void turnedFromRest() {
        c.says("at THE PLACE, SPEED 0, from OFF and RATE 0, in n TICKS");
        NorthWheel x = tuned(0, 10, 20, 50);
        int greatest = x.turned(1, 30, 4, 333);
        int best = x.bestPull(1, 30, 4, 333);
        for (int kind = 0; kind <= 5; kind++) {
            x.kind(1, kind);
            x.off(1, -9000);
            x.set(1, 40);
            x.set(3, 20);
            x.sea(-700);
            x.run(2, false);
            c.due("whatever it was, kind " + kind, x.turned(1, 30, 4, 333), greatest);
            c.due("best pull, kind " + kind, x.bestPull(1, 30, 4, 333), best);
        }
        c.holds("the place tells", greatest != tuned(70, 10, 20, 50).turned(1, 30, 4, 333));
    }

    /** The same from a ship that lies at SPEED 0 and is turned by the sea alone. */
    private static void turnedAsTheShipGoes() {
        c.says("TURNED: the greatest OFF (without sign) of a DAMPED POINTER with PULL, its DAMP and KICK");
        int[][] tunes = {{0, 0, 99}, {99, 0, 99}, {5, 30, 80}, {99, 99, 99}, {1, 2, 50}};
        for (int[] t : tunes) {
            for (int place : new int[] {0, -80, 89}) {
                for (int turn : new int[] {-999, 7, 999}) {
                    NorthWheel x = tuned(place, t[0], t[1], t[2]);
                    c.due("pull " + t[0] + " damp " + t[1] + " turn " + turn, x.turned(1, 120, 40, turn), farthest(x, turn));
                }
            }
        }
    }

    private static int farthest(NorthWheel x, int turn) {
        x.kind(1, 3);
        x.sea(turn);
        int far = 0;
        for (int tick = 1; tick <= 120; tick++) {
            x.run(1, false);
            far = Math.max(far, Math.abs(x.now(1, 0) - 50000));
            if (tick == 40) {
                x.calm();
            }
        }
        return far;
    }

    private static void bestPullAtItsEnds() {
        c.says("BEST PULL: that (1 .. 99) with which it is least");
        NorthWheel x = tuned(0, 10, 20, 40);
        c.due("the greatest", x.bestPull(1, 60, 5, 300), 99);
        x.tune(1, 0, 0);
        c.due("its own is nothing to it", x.bestPull(1, 60, 5, 300), 99);
        c.due("in one tick no pull tells: not 0", x.bestPull(1, 1, 1, 999), 1);
    }

    private static void bestPullTheLeastOfSeveral() {
        c.says("BEST PULL: that (1 .. 99) with which it is least; of several the least.");
        NorthWheel x = tuned(0, 10, 20, 40);
        c.due("no turn", x.bestPull(1, 300, 0, 999), 1);
        c.due("a turn of 0", x.bestPull(1, 300, 300, 0), 1);
        NorthWheel y = tuned(0, 10, 20, 0);
        c.due("no kick", y.bestPull(1, 300, 300, 999), 1);
        // kicked by 1: 1, then 2: with PULL 99 the pull of 1 is cut to 0, as with PULL 1
        NorthWheel z = tuned(0, 10, 0, 1);
        c.due("two small ticks", z.bestPull(1, 2, 1, 100), 1);
        // kicked by 2: PULL 50 and more pulls by 1 in the second tick
        z.tune(1, 2, 2);
        c.due("the least that pulls", z.bestPull(1, 2, 1, 100), 50);
        c.due("the least that pulls, the other way", z.bestPull(1, 2, 1, -100), 50);
    }

    /** A ship whose pointer 0 shows her heading, with a steerer of that text. */
    private static NorthWheel steered(String text) {
        NorthWheel x = new NorthWheel();
        x.kind(0, 1);
        Checks.write(x, text);
        c.holds("steerer of '" + text + "'", x.steerer() > 0);
        return x;
    }

    private static void worstOfTheSecondHalf() {
        c.says("the greatest size of the COURSE less HEADING behind any TICK of the second half (those beyond n / 2, cut)");
        NorthWheel x = steered("most 0");
        int[] yaws = {0, 500, -500, 0, 0, 0};
        for (int yaw : yaws) {
            x.sea(yaw);
        }
        // out by 500 behind the second tick alone
        int[] worsts = {0, 500, 500, 0, 0, 0};
        for (int n = 1; n <= worsts.length; n++) {
            c.due("of " + n, x.kept(n, 0, WORST), worsts[n - 1]);
        }
        x.head(300);
        // out by 300, but for 800 behind the second
        c.due("of 4, the other way", x.kept(4, 0, WORST), 300);
        c.due("of 3, the other way", x.kept(3, 0, WORST), 800);
    }

    private static void worstOfTheLongest() {
        c.says("KEPT for n TICKS (1 .. 300) from now on");
        NorthWheel x = steered("most 0");
        x.head(300);
        x.sea(-1);
        // 300 less the tick: behind 151, 150, and at the end
        c.due("of 300: tick 151", x.kept(300, 0, WORST), 149);
        c.due("of 299: tick 150", x.kept(299, 0, WORST), 150);
        c.due("of 1: tick 1", x.kept(1, 0, WORST), 299);
        c.due("of 2: tick 2", x.kept(2, 0, WORST), 298);
        x.calm();
        x.sea(1);
        c.due("of 300: tick 300", x.kept(300, 0, WORST), 600);
        c.due("of 299: tick 299", x.kept(299, 0, WORST), 599);
    }

    private static void worstGoesRound() {
        c.says("the greatest size of the COURSE less HEADING behind any TICK of the second half (those beyond n / 2, cut)");
        int[][] worsts = {{0, 0, 0}, {18000, 0, 18000}, {0, 18000, 18000}, {17999, 0, 17999}, {18001, 0, 17999}, {0, 18001, 17999},
            {35999, 0, 1}, {0, 35999, 1}, {35900, 200, 300}, {200, 35900, 300}};
        for (int[] w : worsts) {
            NorthWheel x = steered("most 0");
            x.course(w[0]);
            x.head(w[1]);
            c.due("course " + w[0] + " at " + w[1], x.kept(5, 0, WORST), w[2]);
        }
    }

    private static void dearOfAllTicks() {
        c.says("DEAR: the sizes of RUDDER in all TICKS, together.");
        NorthWheel x = steered("gain 100");
        x.course(1000);
        // 10, 8, 6, 5, 4: 1000, 800, 640, 520, 420
        int[] dears = {10, 18, 24, 29, 33};
        for (int n = 1; n <= dears.length; n++) {
            c.due("of " + n, x.kept(n, 0, DEAR), dears[n - 1]);
        }
        x.course(35000);
        for (int n = 1; n <= dears.length; n++) {
            c.due("of " + n + ", the other way", x.kept(n, 0, DEAR), dears[n - 1]);
        }
        NorthWheel y = steered("gain 999;most 35;every 99");
        y.set(2, 0);
        y.course(18000);
        c.due("the dearest", y.kept(300, 0, DEAR), 300 * 35);
        c.due("the dearest, dead 999", y.kept(300, 999, DEAR), 300 * 35);
        y.course(9990);
        c.due("within dead", y.kept(300, 999, DEAR), 0);
        y.course(9991);
        c.due("beyond dead", y.kept(300, 999, DEAR), 300 * 35);
    }

    private static void deadToldInstead() {
        c.says("THE STEERER steering, with dead told instead of its own");
        NorthWheel x = steered("dead 999");
        x.course(1000);
        c.due("its own answers to nothing", x.kept(1, 999, DEAR), 0);
        c.due("0 told", x.kept(1, 0, DEAR), 10);
        c.due("its own stays", x.steers(0), 999);
        x.run(1, true);
        c.due("and steers", x.count(2), 50);
        NorthWheel y = steered("dead 0");
        y.course(1000);
        c.due("99 told", y.kept(1, 99, DEAR), 10);
        c.due("100 told", y.kept(1, 100, DEAR), 0);
        c.due("its own stays", y.steers(0), 0);
    }

    private static void keptFromNowOn() {
        c.says("KEPT for n TICKS (1 .. 300) from now on");
        NorthWheel x = steered("every 3;gain 100;meet 100");
        x.course(1000);
        x.set(2, 0);
        x.run(1, true);
        x.set(3, -9);
        x.sea(5);
        x.sea(70);
        // ticks 1, 2: the RUDDER as it is; tick 3: out 925 is 9, goes 75 is 0
        c.due("one", x.kept(1, 0, DEAR), 9);
        c.due("two", x.kept(2, 0, DEAR), 18);
        c.due("three", x.kept(3, 0, DEAR), 27);
        c.due("heading behind tick 1", x.kept(1, 0, WORST), 930);
        c.due("heading behind tick 2", x.kept(2, 0, WORST), 925);
        x.head(200);
        // tick 3: out 725 is 7, goes 275 from the look of tick 0 is 2
        c.due("what was looked at last is known", x.kept(3, 0, DEAR), 18 + 5);
        x.course(1000);
        c.due("a course told anew: it is not", x.kept(3, 0, DEAR), 18 + 7);
        c.due("as she runs", keptAsSheRuns(), 0);
    }

    /** How often a trial in a ship with all numbers told was not what then came. */
    private static int keptAsSheRuns() {
        int wrong = 0;
        for (int n = 1; n <= 60; n++) {
            NorthWheel x = Wheels.underWay();
            int worst = x.kept(n, 7, WORST), dear = x.kept(n, 7, DEAR), seenWorst = 0, seenDear = 0;
            for (int tick = 1; tick <= n; tick++) {
                int out = Math.abs(3000 - x.run(1, true));
                seenDear += Math.abs(x.count(2) - 50);
                seenWorst = tick > n / 2 ? Math.max(seenWorst, Math.min(out, 36000 - out)) : 0;
            }
            wrong += worst == seenWorst && dear == seenDear ? 0 : 1;
        }
        return wrong;
    }

    private static void keptBeyondTheLastTick() {
        c.says("KEPT for n TICKS (1 .. 300) from now on");
        NorthWheel x = steered("gain 100");
        for (int k = 0; k < 10; k++) {
            x.run(500, false);
        }
        x.course(1000);
        c.due("TICKS are at their end", x.run(1, true), NorthWheel.OUTSIDE);
        c.due("kept all the same", x.kept(5, 0, DEAR), 33);
        c.due("best dead all the same", x.bestDead(5, 1000), 100);
        c.due("TICKS stay", x.count(0), 5000);
    }

    private static void bestDeadByTens() {
        c.says("BEST DEAD with an allowance: of 0, 10, .. 990 the one whose WORST is at most that");
        int[][] bests = {{0, 0}, {1, 0}, {99, 0}, {100, 10}, {101, 20}, {200, 20}, {201, 30}, {4950, 500}, {9800, 980},
            {9801, 990}, {9900, 990}, {9901, 0}, {18000, 0}};
        for (int[] b : bests) {
            NorthWheel x = steered("gain 100");
            x.set(2, 0);
            x.course(b[0]);
            // she does not turn; from 100 on RUDDER costs, unless 10 times dead is at least as much
            c.due("out by " + b[0], x.bestDead(3, 18000), b[1]);
        }
    }

    private static void bestDeadWithin() {
        c.says("the one whose WORST is at most that, with the least DEAR");
        NorthWheel x = steered("gain 100");
        x.course(1000);
        // steered she is out by 800 behind one tick, else by 1000
        c.due("0", x.bestDead(1, 0), NONE);
        c.due("799", x.bestDead(1, 799), NONE);
        c.due("800", x.bestDead(1, 800), 0);
        c.due("999", x.bestDead(1, 999), 0);
        c.due("1000", x.bestDead(1, 1000), 100);
        NorthWheel y = steered("gain 100");
        c.due("kept just so", y.bestDead(300, 0), 0);
        NorthWheel z = steered("most 0");
        z.course(18000);
        c.due("out by half round, 17999", z.bestDead(1, 17999), NONE);
        c.due("out by half round, 18000", z.bestDead(1, 18000), 0);
    }

    private static void bestDeadTheLeastOfSeveral() {
        c.says("with the least DEAR; of several the least; none.");
        NorthWheel x = steered("gain 100");
        x.course(500);
        c.due("50 to 990 cost nothing", x.bestDead(9, 18000), 50);
        NorthWheel y = steered("gain 0");
        y.course(500);
        c.due("all cost nothing", y.bestDead(9, 18000), 0);
        c.due("none is within", y.bestDead(9, 499), NONE);
    }
}
