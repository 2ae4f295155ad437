/** The edges that the document's fourth part names, sentence by sentence: looks, needles, watched swings, counts. */
public final class LookEdgesTest {
    private static final int NONE = NorthWheel.NONE, FULL = NorthWheel.FULL;
    private static final int SURE = 0, MAY = 1, LEAST = 0, GREATEST = 1, HOW_MANY = 0, FIRST = 1, NEXT = 2;
    private static final Checks c = new Checks();

    public static void main(String[] args) {
        looksFull();
        withoutLooks();
        moreThanNOffBoth();
        nOffEachOtherOrLess();
        looksGoRound();
        sureInEachLook();
        mayInSomeLook();
        aboutFull();
        eighthsAtTheirEnds();
        eighthsEmpty();
        leastAndGreatest();
        errorsGoRound();
        watchedFull();
        watchedAtMostNOff();
        watchedAtTheirEnds();
        watchedLieStillAtPlaceNought();
        pullsAndDampsAtTheirBounds();
        firstByPull();
        nextOfSeveral();
        nextAtItsEnds();
        noneMayBe();
        counts();
        c.end();
    }

    private static void looksFull() {
        c.says("LOOKS (16 at most)");
        NorthWheel x = new NorthWheel();
        c.due("none", x.count(5), 0);
        for (int k = 1; k <= 16; k++) {
            c.due("look " + k, x.look(0, 0, k < 16 ? 500 : 100), k);
        }
        c.due("one more", x.look(500, 0, 0), FULL);
        c.due("16", x.count(5), 16);
        c.due("the sixteenth counts", x.wrong(100, SURE), 0);
        c.due("the sixteenth counts", x.wrong(99, SURE), 4);
        c.due("the seventeenth does not", x.wrong(100, MAY), 4);
    }

    private static void withoutLooks() {
        c.says("SURE (none without LOOKS)");
        NorthWheel x = new NorthWheel();
        for (int n : new int[] {0, 100, 9000}) {
            c.due("sure", x.wrong(n, SURE), 0);
            c.due("may", x.wrong(n, MAY), 0);
        }
    }

    /** Looks with pointer p at one heading and the others at two more, for each p in turn. */
    private static void dueWrong(int n, int its, int one, int two, boolean wrong) {
        for (int p = 0; p < 3; p++) {
            int[] shown = new int[3];
            shown[p] = its;
            shown[(p + 1) % 3] = one;
            shown[(p + 2) % 3] = two;
            NorthWheel x = new NorthWheel();
            x.look(shown[0], shown[1], shown[2]);
            String told = p + " at " + its + ", others at " + one + ", " + two + ", by " + n;
            c.due("sure: " + told, x.wrong(n, SURE), wrong ? 1 << p : 0);
            c.due("may: " + told, x.wrong(n, MAY), wrong ? 1 << p : 0);
        }
    }

    private static void moreThanNOffBoth() {
        c.says("a POINTER that is in each LOOK more than n off both others");
        dueWrong(100, 1101, 1000, 1000, true);
        dueWrong(100, 1100, 1000, 1000, false);
        dueWrong(100, 899, 1000, 1000, true);
        dueWrong(100, 900, 1000, 1000, false);
        // off one by more, off the other by just n
        dueWrong(100, 1100, 1000, 950, false);
        dueWrong(100, 1100, 950, 1000, false);
        dueWrong(100, 1101, 1000, 950, true);
        dueWrong(0, 1, 0, 0, true);
        dueWrong(0, 0, 0, 0, false);
        dueWrong(9000, 9001, 0, 0, true);
        dueWrong(9000, 9000, 0, 0, false);
    }

    private static void nOffEachOtherOrLess() {
        c.says("while these are n off each other or less");
        dueWrong(100, 5000, 1000, 1100, true);
        dueWrong(100, 5000, 1000, 1101, false);
        dueWrong(100, 5000, 1100, 1000, true);
        dueWrong(100, 5000, 1101, 1000, false);
        dueWrong(0, 5000, 1000, 1000, true);
        dueWrong(0, 5000, 1000, 1001, false);
        dueWrong(9000, 22500, 0, 9000, true);
        dueWrong(9000, 22500, 0, 9001, false);
    }

    private static void looksGoRound() {
        c.says("(each number is brought there by whole circles)");
        dueWrong(100, 5000, 35950, 50, true);
        dueWrong(100, 5000, 35950, 51, false);
        dueWrong(100, 5000, 50, 35950, true);
        dueWrong(100, 0, 35900, 35900, false);
        dueWrong(100, 0, 35899, 35899, true);
        dueWrong(100, 35999, 99, 99, false);
        dueWrong(100, 35999, 100, 100, true);
        dueWrong(9000, 18000, 0, 0, true);
        dueWrong(9000, 27000, 0, 0, false);
        dueWrong(9000, 26999, 0, 0, true);
    }

    private static void sureInEachLook() {
        c.says("in each LOOK more than n off both others, while these are n off each other or less: SURE");
        for (int odd = 0; odd < 16; odd++) {
            NorthWheel x = new NorthWheel();
            for (int k = 0; k < 16; k++) {
                x.look(0, k == odd ? 0 : 700, 0);
            }
            c.due("not in look " + odd, x.wrong(100, SURE), 0);
            c.due("in some", x.wrong(100, MAY), 2);
        }
        NorthWheel y = new NorthWheel();
        for (int k = 0; k < 16; k++) {
            y.look(0, 700, 0);
        }
        c.due("in each", y.wrong(100, SURE), 2);
    }

    private static void mayInSomeLook() {
        c.says("one of which that is so in some LOOK: MAY.");
        for (int at = 0; at < 16; at++) {
            NorthWheel x = new NorthWheel();
            for (int k = 0; k < 16; k++) {
                x.look(k == at ? 700 : 0, 0, 0);
            }
            c.due("in look " + at, x.wrong(100, MAY), 1);
            c.due("in look " + at + " alone", x.wrong(100, SURE), 0);
        }
        NorthWheel y = new NorthWheel();
        y.look(700, 0, 0);
        y.look(0, 700, 0);
        y.look(0, 0, 700);
        c.due("all three, by bits", y.wrong(100, MAY), 7);
        c.due("none is sure", y.wrong(100, SURE), 0);
    }

    private static void aboutFull() {
        c.says("TURNED ABOUT (24 at most)");
        NorthWheel x = new NorthWheel();
        c.due("none", x.count(6), 0);
        for (int k = 1; k <= 24; k++) {
            c.due("about " + k, x.about(0, k), k);
        }
        c.due("one more", x.about(0, 25), FULL);
        c.due("one more, elsewhere", x.about(9000, 0), FULL);
        c.due("24", x.count(6), 24);
        c.due("the last counts", x.needle(0, LEAST), 50000 - 24);
        c.due("elsewhere none", x.needle(2, LEAST), NONE);
    }

    private static void eighthsAtTheirEnds() {
        c.says("those HEADINGS less than 2250 from it, or just that ahead of it");
        for (int k = 0; k < 8; k++) {
            for (int way : new int[] {-2251, -2250, -2249, -1, 0, 1, 2249, 2250}) {
                NorthWheel x = new NorthWheel();
                int heading = Math.floorMod(4500 * k + way, 36000);
                x.about(heading, heading);
                int its = way == -2251 ? (k + 7) % 8 : way == 2250 ? (k + 1) % 8 : k;
                for (int eighth = 0; eighth < 8; eighth++) {
                    c.due("heading " + heading + " in " + eighth, x.needle(eighth, LEAST), eighth == its ? 50000 : NONE);
                }
            }
        }
    }

    private static void eighthsEmpty() {
        c.says("both and 50000; NONE: there are none. OUTSIDE.");
        NorthWheel x = new NorthWheel();
        for (int k = 0; k < 8; k++) {
            c.due("least of none", x.needle(k, LEAST), NONE);
            c.due("greatest of none", x.needle(k, GREATEST), NONE);
        }
        x.about(4500, 4500);
        c.due("an error of 0 is not none", x.needle(1, LEAST), 50000);
        c.due("an error of 0 is not none", x.needle(1, GREATEST), 50000);
    }

    private static void leastAndGreatest() {
        c.says("the least and the greatest HEADING less what it SHOWED.");
        int[][] orders = {{-30, 10, 70}, {70, 10, -30}, {10, 70, -30}, {-30, 70, 10}};
        for (int[] order : orders) {
            NorthWheel x = new NorthWheel();
            for (int error : order) {
                x.about(9000, 9000 - error);
            }
            c.due("least", x.needle(2, LEAST), 49970);
            c.due("greatest", x.needle(2, GREATEST), 50070);
        }
        for (int error : new int[] {-500, 500}) {
            NorthWheel y = new NorthWheel();
            y.about(9000, 9000 - error);
            y.about(9000, 9000 - 2 * error);
            c.due("least, all on one side", y.needle(2, LEAST), 50000 + Math.min(error, 2 * error));
            c.due("greatest, all on one side", y.needle(2, GREATEST), 50000 + Math.max(error, 2 * error));
        }
    }

    private static void errorsGoRound() {
        c.says("(each number is brought there by whole circles)");
        int[][] errors = {{0, 35999, 1}, {35999, 0, -1}, {0, 18000, -18000}, {18000, 0, -18000}, {0, 18001, 17999},
            {0, 17999, -17999}, {35999, 18000, 17999}, {35999, 17999, -18000}, {17999, 35999, -18000}};
        for (int[] e : errors) {
            NorthWheel x = new NorthWheel();
            x.about(e[0], e[1]);
            int k = (e[0] + 2250) % 36000 / 4500;
            c.due("at " + e[0] + " showed " + e[1], x.needle(k, LEAST), 50000 + e[2]);
            c.due("at " + e[0] + " showed " + e[1], x.needle(k, GREATEST), 50000 + e[2]);
        }
    }

    private static void watchedFull() {
        c.says("WATCHED (10 at most)");
        NorthWheel x = new NorthWheel();
        c.due("none", x.count(7), 0);
        c.due("all may be", x.may(0, HOW_MANY), 441);
        for (int k = 1; k <= 9; k++) {
            c.due("watch " + k, x.watch(0, 3000), k);
        }
        c.due("all may be", x.may(0, HOW_MANY), 441);
        c.due("the tenth", x.watch(60, 3000), 10);
        c.due("the tenth counts: no pull", x.may(0, HOW_MANY), 21);
        c.due("one more", x.watch(0, 0), FULL);
        c.due("10", x.count(7), 10);
        c.due("the eleventh does not count", x.may(0, HOW_MANY), 21);
    }

    private static void watchedAtMostNOff() {
        c.says("with which all WATCHED are at most n (0 .. 999) off");
        for (int sign = -1; sign <= 1; sign += 2) {
            NorthWheel x = new NorthWheel();
            x.watch(0, 3000 + sign * 40);
            c.due("by 40", x.may(40, HOW_MANY), 441);
            c.due("by 39", x.may(39, HOW_MANY), 0);
            NorthWheel y = new NorthWheel();
            y.watch(0, 3000 + sign * 999);
            c.due("by 999", y.may(999, HOW_MANY), 441);
            c.due("by 998", y.may(998, HOW_MANY), 0);
            NorthWheel z = new NorthWheel();
            z.watch(0, 3000 + sign * 1000);
            c.due("by 1000", z.may(999, HOW_MANY), 0);
        }
        NorthWheel w = new NorthWheel();
        w.watch(0, 3000);
        c.due("by 0", w.may(0, HOW_MANY), 441);
        w.watch(0, 3001);
        c.due("all of them", w.may(0, HOW_MANY), 0);
        c.due("all of them, by 1", w.may(1, HOW_MANY), 441);
    }

    private static void watchedAtTheirEnds() {
        c.says("behind so many TICKS (0 .. 60)");
        NorthWheel x = new NorthWheel();
        x.watch(60, 3000);
        c.due("behind 60 only one without pull is there", x.may(0, HOW_MANY), 21);
        c.says("OUTSIDE: ticks, off (-18000 .. 17999); FULL.");
        for (int off : new int[] {-18000, 17999}) {
            NorthWheel y = new NorthWheel();
            c.due("so far off", y.watch(30, off), 1);
            c.due("none comes there", y.may(999, HOW_MANY), 0);
        }
    }

    private static void watchedLieStillAtPlaceNought() {
        c.says("a DAMPED POINTER, in a SHIP that lies still at PLACE 0, from OFF 3000 and RATE 0, was that far OFF.");
        NorthWheel x = new NorthWheel();
        NorthWheel y = new NorthWheel();
        x.set(0, 77);
        x.set(1, 40);
        x.set(3, 35);
        x.kind(0, 2);
        x.tune(0, 0, 99);
        x.tune(0, 2, 99);
        x.sea(999);
        x.run(9, false);
        for (int k = 0; k < 3; k++) {
            x.watch(4 * k, 3000 - 700 * k);
            y.watch(4 * k, 3000 - 700 * k);
            for (int what = HOW_MANY; what <= NEXT; what++) {
                c.due("the ship is nothing to it", x.may(200, what), y.may(200, what));
            }
        }
    }

    private static void pullsAndDampsAtTheirBounds() {
        c.says("MAY BE: PULLS 0 .. 20 and DAMPS 0 .. 20");
        NorthWheel x = new NorthWheel();
        // PULL 20 DAMP 20: RATE -600 and 120: OFF 2520; RATE -480 - 504 and 196: OFF 1732
        x.watch(1, 2520);
        x.watch(2, 1732);
        c.due("both at their greatest", x.may(0, HOW_MANY), 1);
        c.due("both at their greatest", x.may(0, FIRST), 2020);
        NorthWheel y = new NorthWheel();
        // DAMP 21: RATE -600 and 126: OFF 2526; RATE -474 - 505 and 205: OFF 1752
        y.watch(1, 2526);
        c.due("PULL 19 DAMP 17 is there too", y.may(0, FIRST), 1917);
        y.watch(2, 1752);
        c.due("DAMP 21", y.may(0, HOW_MANY), 0);
        NorthWheel z = new NorthWheel();
        // PULL 20: RATE -600; PULL 21: RATE -630
        z.watch(1, 2400);
        c.due("PULL 20 without DAMP", z.may(0, FIRST), 2000);
        c.due("PULL 20 without DAMP alone", z.may(0, HOW_MANY), 1);
        NorthWheel w = new NorthWheel();
        w.watch(1, 2370);
        c.due("PULL 21", w.may(0, HOW_MANY), 0);
        c.due("PULL 21, by 29", w.may(29, HOW_MANY), 0);
        c.due("PULL 20, by 30", w.may(30, HOW_MANY), 1);
        NorthWheel v = new NorthWheel();
        v.watch(60, 3000);
        c.due("PULL 0, DAMPS 0 .. 20", v.may(0, HOW_MANY), 21);
        c.due("PULL 0 DAMP 0", v.may(0, FIRST), 0);
    }

    private static void firstByPull() {
        c.says("how many, the first (by PULL)");
        NorthWheel x = new NorthWheel();
        // OFF 2712: PULL 10 DAMP 4 (-300 and 12), 11 DAMP 13 (-330 and 42), 12 DAMP 20 (-360 and 72)
        x.watch(1, 2712);
        c.due("how many", x.may(0, HOW_MANY), 3);
        c.due("the least PULL, though not the least of all DAMPS beyond", x.may(0, FIRST), 1004);
        NorthWheel y = new NorthWheel();
        // OFF 2970: PULL 1 without DAMP and up to DAMP 3 (-30 and 0)
        y.watch(1, 2970);
        c.due("how many", y.may(0, HOW_MANY), 4);
        c.due("of one PULL the least DAMP", y.may(0, FIRST), 100);
    }

    private static void nextOfSeveral() {
        c.says("(greatest less least); of several the least; none without.");
        NorthWheel x = new NorthWheel();
        x.watch(60, 3000);
        c.due("nowhere apart", x.may(0, NEXT), 0);
        // apart by as much at two ticks, and at three
        int[][] ties = {{20, 79, 54, 121, 75, 10}, {13, 1624, 15, 1277, 82, 31}, {7, 1756, 56, 97, 59, 16}};
        for (int[] t : ties) {
            NorthWheel y = new NorthWheel();
            y.watch(t[0], t[1]);
            y.watch(t[2], t[3]);
            c.due("the least", y.may(t[4], NEXT), t[5]);
        }
        // farther apart by 1 alone than at another tick ahead of it or behind it
        int[][] narrow = {{31, -953, 26, 246, 177, 31}, {50, 360, 27, -1280, 165, 25}};
        for (int[] t : narrow) {
            NorthWheel y = new NorthWheel();
            y.watch(t[0], t[1]);
            y.watch(t[2], t[3]);
            c.due("two that may be", y.may(t[4], HOW_MANY), 2);
            c.due("by a hair", y.may(t[4], NEXT), t[5]);
        }
    }

    private static void nextAtItsEnds() {
        c.says("NEXT: the TICK (0 .. 60) for which the OFFS of those that MAY BE lie farthest apart");
        NorthWheel x = new NorthWheel();
        x.watch(31, -824);
        x.watch(19, 899);
        c.due("the last", x.may(93, NEXT), 60);
        NorthWheel y = new NorthWheel();
        y.watch(24, -2104);
        y.watch(8, -2414);
        c.due("the last but one", y.may(239, NEXT), 59);
        NorthWheel z = new NorthWheel();
        z.watch(60, 3000);
        c.due("the first", z.may(0, NEXT), 0);
        NorthWheel w = new NorthWheel();
        w.watch(1, 2400);
        c.due("one alone", w.may(0, HOW_MANY), 1);
        c.due("one alone: the first", w.may(0, NEXT), 0);
    }

    private static void noneMayBe() {
        c.says("the first: 100 PULL and DAMP (1; NONE), NEXT (2; NONE)");
        NorthWheel x = new NorthWheel();
        x.watch(0, 0);
        c.due("how many", x.may(999, HOW_MANY), 0);
        c.due("the first", x.may(999, FIRST), NONE);
        c.due("next", x.may(999, NEXT), NONE);
        NorthWheel y = new NorthWheel();
        c.due("without any watched: all", y.may(0, HOW_MANY), 441);
        c.due("without any watched: the first", y.may(0, FIRST), 0);
        c.holds("without any watched: next", y.may(0, NEXT) >= 0);
    }

    private static void counts() {
        c.says("0 TICKS, 1 HEADING, 2 RUDDER and 50, 3 YAWS, 4 bytes of THE TEXT, 5 LOOKS, 6 TURNED ABOUT, 7 WATCHED.");
        NorthWheel x = new NorthWheel();
        int[] first = {0, 0, 50, 0, 0, 0, 0, 0};
        for (int what = 0; what < first.length; what++) {
            c.due("at first " + what, x.count(what), first[what]);
        }
        x.set(3, -35);
        c.due("the least RUDDER", x.count(2), 15);
        x.set(3, 35);
        c.due("the greatest RUDDER", x.count(2), 85);
        x.head(35999);
        c.due("the greatest HEADING", x.count(1), 35999);
        NorthWheel y = Wheels.full();
        int[] full = {7, y.count(1), y.count(2), 24, 160, 16, 24, 10};
        for (int what = 0; what < full.length; what++) {
            c.due("full " + what, y.count(what), full[what]);
        }
    }
}
