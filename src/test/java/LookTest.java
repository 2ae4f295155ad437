/** Promises 28 to 34: looks, needles, watched swings, counts. */
public final class LookTest {
    private static final Checks c = new Checks();

    public static void main(String[] args) {
        look();
        wrong();
        wrongRoundNorth();
        about();
        needle();
        watch();
        may();
        mayAsTheShipGoes();
        count();
        c.end();
    }

    private static void look() {
        c.says("A LOOK: how many. OUTSIDE; FULL.");
        NorthWheel x = new NorthWheel();
        int[][] outside = {{-1, 0, 0}, {0, -1, 0}, {0, 0, -1}, {36000, 0, 0}, {0, 36000, 0}, {0, 0, 36000}};
        for (int[] o : outside) {
            c.due("look", x.look(o[0], o[1], o[2]), NorthWheel.OUTSIDE);
        }
        for (int k = 1; k <= 16; k++) {
            c.due("look", x.look(0, 35999, 35999), k);
        }
        c.due("full", x.look(0, 0, 0), NorthWheel.FULL);
        c.due("outside first", x.look(0, 0, 36000), NorthWheel.OUTSIDE);
        c.due("looks", x.count(5), 16);
        c.due("sure of all", x.wrong(0, 0), 1);
        c.due("may of all", x.wrong(0, 1), 1);
    }

    private static void wrong() {
        c.says("WRONG by n: SURE (what 0), MAY (1), by bits. OUTSIDE.");
        NorthWheel x = new NorthWheel();
        c.due("sure without looks", x.wrong(0, 0), 0);
        c.due("may without looks", x.wrong(0, 1), 0);
        x.look(1000, 1100, 1201);
        // apart 100, 101, 201
        c.due("none alone", x.wrong(99, 0), 0);
        c.due("c is wrong", x.wrong(100, 0), 4);
        c.due("both others within", x.wrong(101, 0), 0);
        c.due("both others within", x.wrong(201, 0), 0);
        x.look(300, 0, 0);
        c.due("not in each", x.wrong(100, 0), 0);
        c.due("in some", x.wrong(100, 1), 5);
        x.look(0, 300, 0);
        c.due("in some", x.wrong(100, 1), 7);
        c.due("in some", x.wrong(299, 1), 3);
        c.due("in none", x.wrong(300, 1), 0);
        c.due("n -1", x.wrong(-1, 0), NorthWheel.OUTSIDE);
        c.due("n 9001", x.wrong(9001, 0), NorthWheel.OUTSIDE);
        c.due("what -1", x.wrong(0, -1), NorthWheel.OUTSIDE);
        c.due("what 2", x.wrong(0, 2), NorthWheel.OUTSIDE);
    }

    private static void wrongRoundNorth() {
        c.says("WRONG by n: SURE (what 0), MAY (1), by bits. OUTSIDE.");
        for (int which = 0; which < 3; which++) {
            NorthWheel x = new NorthWheel();
            int[] shown = {35990, 10, 10};
            shown[which] = 18000;
            shown[(which + 1) % 3] = 35990;
            shown[(which + 2) % 3] = 10;
            x.look(shown[0], shown[1], shown[2]);
            c.due("20 apart", x.wrong(20, 0), 1 << which);
            c.due("20 apart", x.wrong(19, 0), 0);
            c.due("greatest n", x.wrong(9000, 1), 1 << which);
        }
    }

    private static void about() {
        c.says("TURNED ABOUT: at a HEADING it SHOWED that: how many. OUTSIDE; FULL.");
        NorthWheel x = new NorthWheel();
        c.due("about -1", x.about(-1, 0), NorthWheel.OUTSIDE);
        c.due("about 36000", x.about(36000, 0), NorthWheel.OUTSIDE);
        c.due("showed -1", x.about(0, -1), NorthWheel.OUTSIDE);
        c.due("showed 36000", x.about(0, 36000), NorthWheel.OUTSIDE);
        for (int k = 1; k <= 24; k++) {
            c.due("about", x.about(35999, 35999), k);
        }
        c.due("full", x.about(0, 100), NorthWheel.FULL);
        c.due("outside first", x.about(0, 36000), NorthWheel.OUTSIDE);
        c.due("turned about", x.count(6), 24);
        c.due("unchanged", x.needle(0, 0), 50000);
    }

    private static void needle() {
        c.says("Of an eighth (0 .. 7): the least (what 0), the greatest (1), both and 50000; NONE: there are none. OUTSIDE.");
        for (int k = 0; k < 8; k++) {
            NorthWheel x = new NorthWheel();
            int from = Math.floorMod(4500 * k - 2250, 36000);
            int to = Math.floorMod(4500 * k + 2249, 36000);
            x.about(from, Math.floorMod(from - 30, 36000));
            x.about(4500 * k, Math.floorMod(4500 * k + 70, 36000));
            x.about(to, Math.floorMod(to - 20, 36000));
            c.due("least", x.needle(k, 0), 49930);
            c.due("greatest", x.needle(k, 1), 50030);
            for (int other = 0; other < 8; other++) {
                if (other != k) {
                    c.due("none", x.needle(other, 0), NorthWheel.NONE);
                    c.due("none", x.needle(other, 1), NorthWheel.NONE);
                }
            }
        }
        NorthWheel y = new NorthWheel();
        y.about(9000, 1000);
        c.due("one", y.needle(2, 0), 58000);
        y.about(9000, 27000);
        c.due("half round is below 0", y.needle(2, 0), 32000);
        y.about(9000, 27001);
        c.due("half round less", y.needle(2, 1), 67999);
        c.due("eighth -1", y.needle(-1, 0), NorthWheel.OUTSIDE);
        c.due("eighth 8", y.needle(8, 0), NorthWheel.OUTSIDE);
        c.due("what -1", y.needle(0, -1), NorthWheel.OUTSIDE);
        c.due("what 2", y.needle(0, 2), NorthWheel.OUTSIDE);
    }

    private static void watch() {
        c.says("WATCHED: how many. OUTSIDE: ticks, off (-18000 .. 17999); FULL.");
        NorthWheel x = new NorthWheel();
        c.due("ticks -1", x.watch(-1, 0), NorthWheel.OUTSIDE);
        c.due("ticks 61", x.watch(61, 0), NorthWheel.OUTSIDE);
        c.due("off 18000", x.watch(0, 18000), NorthWheel.OUTSIDE);
        c.due("off -18001", x.watch(0, -18001), NorthWheel.OUTSIDE);
        c.due("watch", x.watch(0, 17999), 1);
        c.due("watch", x.watch(60, -18000), 2);
        for (int k = 3; k <= 10; k++) {
            c.due("watch", x.watch(k, k), k);
        }
        c.due("full", x.watch(0, 0), NorthWheel.FULL);
        c.due("outside first", x.watch(61, 0), NorthWheel.OUTSIDE);
        c.due("watched", x.count(7), 10);
    }

    private static void may() {
        c.says("MAY BE with n: how many (what 0), the first: 100 PULL and DAMP (1; NONE), NEXT (2; NONE). OUTSIDE.");
        NorthWheel x = new NorthWheel();
        c.due("all", x.may(0, 0), 441);
        c.due("first", x.may(0, 1), 0);
        x.watch(1, 2713);
        // pull 12 damp 20: -360, less -72: -288; 12 damp 19: -292 ..: 2713 is rate -287
        // pull 10 damp 4: -300 + 12 = -288; pull 9 (-270) and 11 damp 13: -330 + 42 = -288
        c.due("none just so", x.may(0, 0), 0);
        c.due("none: first", x.may(0, 1), NorthWheel.NONE);
        c.due("none: next", x.may(0, 2), NorthWheel.NONE);
        c.due("one off", x.may(1, 0), 3);
        c.due("first by pull", x.may(1, 1), 1004);
        c.due("n -1", x.may(-1, 0), NorthWheel.OUTSIDE);
        c.due("n 1000", x.may(1000, 0), NorthWheel.OUTSIDE);
        c.due("what -1", x.may(0, -1), NorthWheel.OUTSIDE);
        c.due("what 3", x.may(0, 3), NorthWheel.OUTSIDE);
        x.watch(2, 3000);
        c.due("each watched one must be so", x.may(1, 0), 0);
        NorthWheel y = new NorthWheel();
        y.watch(60, 3000);
        y.watch(1, 3000);
        // without pull it stays, whatever its damp
        c.due("without pull", y.may(0, 0), 21);
        c.due("without pull", y.may(0, 1), 0);
        c.due("none apart: the least tick", y.may(0, 2), 0);
        NorthWheel z = new NorthWheel();
        z.watch(9, -2981);
        c.due("three", z.may(59, 0), 3);
        c.due("farthest apart at the last", z.may(59, 2), 60);
    }

    /** The same from ships that lie still, each with its own pull and damp. */
    private static void mayAsTheShipGoes() {
        c.says("MAY BE with n: how many (what 0), the first: 100 PULL and DAMP (1; NONE), NEXT (2; NONE). OUTSIDE.");
        int[][] paths = new int[441][61];
        for (int pull = 0; pull <= 20; pull++) {
            for (int damp = 0; damp <= 20; damp++) {
                paths[21 * pull + damp] = path(pull, damp);
            }
        }
        int[][] watched = {{0, 3000}, {7, 1200}, {30, -150}, {60, 10}, {12, -700}};
        NorthWheel x = new NorthWheel();
        x.set(0, 77);
        for (int size = 1; size <= watched.length; size++) {
            x.watch(watched[size - 1][0], watched[size - 1][1]);
            for (int n : new int[] {0, 40, 250, 700, 999}) {
                compareMay(x, paths, watched, size, n);
            }
        }
    }

    private static int[] path(int pull, int damp) {
        NorthWheel x = new NorthWheel();
        x.tune(0, 0, pull);
        x.tune(0, 1, damp);
        x.kind(0, 3);
        x.off(0, 3000);
        int[] path = new int[61];
        path[0] = 3000;
        for (int tick = 1; tick <= 60; tick++) {
            x.run(1, false);
            path[tick] = x.now(0, 0) - 50000;
        }
        return path;
    }

    private static void compareMay(NorthWheel x, int[][] paths, int[][] watched, int size, int n) {
        int many = 0, first = -1, next = -1, widest = -1;
        boolean[] fits = new boolean[441];
        for (int k = 440; k >= 0; k--) {
            fits[k] = true;
            for (int w = 0; w < size; w++) {
                fits[k] &= Math.abs(paths[k][watched[w][0]] - watched[w][1]) <= n;
            }
            if (fits[k]) {
                many++;
                first = k / 21 * 100 + k % 21;
            }
        }
        for (int tick = 0; tick <= 60 && many > 0; tick++) {
            int least = Integer.MAX_VALUE, greatest = Integer.MIN_VALUE;
            for (int k = 0; k < 441; k++) {
                if (fits[k]) {
                    least = Math.min(least, paths[k][tick]);
                    greatest = Math.max(greatest, paths[k][tick]);
                }
            }
            if (greatest - least > widest) {
                widest = greatest - least;
                next = tick;
            }
        }
        c.due("how many of " + size + " with " + n, x.may(n, 0), many);
        c.due("first of " + size + " with " + n, x.may(n, 1), first);
        c.due("next of " + size + " with " + n, x.may(n, 2), next);
    }

    private static void count() {
        c.says("0 TICKS, 1 HEADING, 2 RUDDER and 50, 3 YAWS, 4 bytes of THE TEXT, 5 LOOKS, 6 TURNED ABOUT, 7 WATCHED. OUTSIDE.");
        NorthWheel x = new NorthWheel();
        x.set(3, -35);
        x.sea(1);
        x.sea(2);
        x.run(3, false);
        Checks.write(x, "abcde");
        for (int k = 0; k < 6; k++) {
            x.look(0, 0, 0);
        }
        for (int k = 0; k < 7; k++) {
            x.about(0, 0);
        }
        for (int k = 0; k < 8; k++) {
            x.watch(0, 0);
        }
        int[] want = {3, 36000 - 2100 + 4, 15, 2, 5, 6, 7, 8};
        for (int what = 0; what < want.length; what++) {
            c.due("count " + what, x.count(what), want[what]);
        }
        c.due("count -1", x.count(-1), NorthWheel.OUTSIDE);
        c.due("count 8", x.count(8), NorthWheel.OUTSIDE);
    }
}
