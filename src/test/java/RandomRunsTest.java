import java.util.Random;

/** Long runs of calls with numbers from a fixed seed, each answer compared with the plain wheel's. */
public final class RandomRunsTest {
    /** An object is promised 512 calls; one pick makes at most some thirty. */
    private static final int RUNS = 400, CALLS = 512 - 30;
    private static final Checks c = new Checks();
    private final Random random;
    private final NorthWheel x = new NorthWheel();
    private final PlainWheel y = new PlainWheel();
    private final String name;
    /** How often a number is let stray outside its bounds: one in so many. */
    private final int stray;
    private int made = 0;

    private RandomRunsTest(int seed) {
        random = new Random(seed);
        name = "run " + seed + ": ";
        stray = seed % 3 == 0 ? 15 : 200;
    }

    public static void main(String[] args) {
        for (int seed = 1; seed <= RUNS; seed++) {
            RandomRunsTest test = new RandomRunsTest(seed);
            while (test.made < CALLS) {
                test.pickOne();
            }
        }
        c.end();
    }

    /** A number within the bounds, often on them, now and then outside. */
    private int any(int least, int greatest) {
        if (random.nextInt(stray) == 0) {
            int[] outside = {least - 1, greatest + 1, Integer.MIN_VALUE, Integer.MAX_VALUE, random.nextInt()};
            return outside[random.nextInt(outside.length)];
        }
        int pick = random.nextInt(12);
        return pick == 0 ? least : pick == 1 ? greatest : within(least, greatest);
    }

    private int within(int least, int greatest) {
        return least + random.nextInt(greatest - least + 1);
    }

    /** A number mostly near 0, so that swings and looks come near one another. */
    private int near(int least, int greatest, int reach) {
        return random.nextBoolean() ? any(least, greatest) : within(Math.max(least, -reach), Math.min(greatest, reach));
    }

    private int heading() {
        int pick = random.nextInt(4);
        if (pick == 0) {
            return within(0, 15) * 2250 + (random.nextBoolean() ? 0 : within(0, 1));
        }
        return pick == 1 ? Math.floorMod(within(-400, 400), 36000) : any(0, 35999);
    }

    private void pickOne() {
        int pick = random.nextInt(100);
        if (pick < 45) {
            shipCall(random.nextInt(14));
        } else if (pick < 70) {
            steererCall(random.nextInt(6));
        } else if (pick < 85) {
            trialCall(random.nextInt(7));
        } else {
            lookCall(random.nextInt(7));
        }
    }

    private void due(String call, int got, int want) {
        made++;
        c.due(name + call, got, want);
    }

    private void shipCall(int which) {
        int p = any(0, 2), h = heading(), a = any(0, 3), v;
        switch (which) {
            case 0 -> { v = a == 0 ? any(-89, 89) : a == 1 ? any(0, 40) : a == 2 ? any(0, 99) : any(-35, 35);
                due("set " + a + " " + v, x.set(a, v), y.set(a, v)); }
            case 1 -> due("head " + h, x.head(h), y.head(h));
            case 2 -> { v = any(-999, 999);
                due("sea " + v, x.sea(v), y.sea(v)); }
            case 3 -> { if (random.nextInt(4) == 0) {
                    due("calm", x.calm(), y.calm()); } }
            case 4 -> { v = any(0, 5);
                due("kind " + p + " " + v, x.kind(p, v), y.kind(p, v)); }
            case 5 -> { a = any(0, 2);
                v = any(0, 99);
                due("tune " + p + " " + a + " " + v, x.tune(p, a, v), y.tune(p, a, v)); }
            case 6 -> { v = any(-18000, 17999);
                due("off " + p + " " + v, x.off(p, v), y.off(p, v)); }
            case 7 -> { v = any(0, 40);
                a = any(-89, 89);
                due("told " + p + " " + v + " " + a, x.told(p, v, a), y.told(p, v, a)); }
            case 8 -> { a = any(0, 7);
                v = any(-2000, 2000);
                due("iron " + a + " " + v, x.iron(a, v), y.iron(a, v)); }
            case 9 -> due("shows " + p, x.shows(p), y.shows(p));
            case 10 -> { a = any(0, 1);
                due("now " + p + " " + a, x.now(p, a), y.now(p, a)); }
            case 11 -> { v = any(0, 40);
                a = any(-89, 89);
                due("lean " + v + " " + a + " " + h, x.lean(v, a, h), y.lean(v, a, h)); }
            case 12 -> due("deviation " + h, x.deviation(h), y.deviation(h));
            default -> runOn();
        }
    }

    private void runOn() {
        int n = random.nextInt(20) == 0 ? any(1, 500) : within(1, 40);
        boolean steered = random.nextInt(3) > 0;
        due("run " + n + " " + steered, x.run(n, steered), y.run(n, steered));
        for (int p = 0; p < 3; p++) {
            due("then now " + p, x.now(p, 0), y.now(p, 0));
            due("then rate " + p, x.now(p, 1), y.now(p, 1));
            due("then shows " + p, x.shows(p), y.shows(p));
        }
        due("then rudder", x.count(2), y.count(2));
    }

    private void steererCall(int which) {
        int a, h = heading();
        switch (which) {
            case 0 -> { if (random.nextInt(8) == 0) {
                    a = any(1, 8);
                    long bytes = random.nextLong();
                    due("write", x.write(bytes, a), y.write(bytes, a));
                } else {
                    writeText(text()); } }
            case 1 -> due("erase", x.erase(), y.erase());
            case 2 -> due("fault", x.fault(), y.fault());
            case 3 -> { due("erase", x.erase(), y.erase());
                writeText(text());
                due("fault", x.fault(), y.fault());
                due("steerer", x.steerer(), y.steerer()); }
            case 4 -> { a = any(0, 5);
                due("steers " + a, x.steers(a), y.steers(a)); }
            default -> due("course " + h, x.course(h), y.course(h));
        }
    }

    private void writeText(String text) {
        for (int from = 0; from < text.length(); from += 8) {
            int n = Math.min(8, text.length() - from);
            long bytes = random.nextLong() << 56;
            for (int i = 0; i < n; i++) {
                bytes = bytes & ~(255L << 8 * i) | (long) text.charAt(from + i) << 8 * i;
            }
            due("write of '" + text + "'", x.write(bytes, n), y.write(bytes, n));
        }
    }

    /** Lines that are mostly as they should be; now and then with something put in, left out or changed. */
    private String text() {
        StringBuilder s = new StringBuilder();
        int lines = random.nextInt(12) == 0 ? within(7, 9) : within(1, 5);
        for (int i = 0; i < lines; i++) {
            int word = random.nextInt(6);
            int[] greatest = {99, 300, 300, 35, 9, 2};
            int number = random.nextInt(20) == 0 ? random.nextInt(1100) : within(word == 4 ? 1 : 0, greatest[word]);
            s.append(i == 0 ? "" : ";").append(blanks()).append(PlainWheel.WORDS.get(word));
            s.append(random.nextInt(6) == 0 ? "" : " ").append(blanks()).append(random.nextInt(9) == 0 ? "0" : "");
            s.append(number).append(blanks());
        }
        if (random.nextInt(4) == 0 && s.length() > 0) {
            String odd = " ;a1Z" + (char) 233 + (char) 0 + ".09by";
            int at = random.nextInt(s.length());
            char sign = odd.charAt(random.nextInt(odd.length()));
            switch (random.nextInt(4)) {
                case 0 -> s.insert(at, sign);
                case 1 -> s.deleteCharAt(at);
                case 2 -> s.setCharAt(at, sign);
                default -> s.setLength(at);
            }
        }
        return s.toString();
    }

    private String blanks() {
        return random.nextInt(7) == 0 ? " ".repeat(within(1, 3)) : "";
    }

    private void trialCall(int which) {
        int p = any(0, 2), n = any(1, 300), k = random.nextBoolean() ? any(0, 10) : any(0, 300), t = any(-999, 999), a;
        if (which > 2 && random.nextBoolean()) {
            k = Math.min(k, n);
        }
        switch (which) {
            case 0, 1 -> { int off = near(-9000, 9000, 150);
                boolean damped = random.nextInt(3) > 0;
                a = any(0, 2);
                due("swing " + p + " " + off + " " + damped + " " + a, x.swing(p, off, damped, a), y.swing(p, off, damped, a)); }
            case 2 -> due("noUse " + p, x.noUse(p), y.noUse(p));
            case 3 -> due("turned", x.turned(p, n, k, t), y.turned(p, n, k, t));
            case 4 -> due("bestPull", x.bestPull(p, n, k, t), y.bestPull(p, n, k, t));
            case 5 -> { a = any(0, 1);
                int dead = any(0, 999);
                due("kept " + n + " " + dead + " " + a, x.kept(n, dead, a), y.kept(n, dead, a)); }
            default -> { int allowance = random.nextBoolean() ? any(0, 18000) : within(0, 3000);
                due("bestDead " + n + " " + allowance, x.bestDead(n, allowance), y.bestDead(n, allowance)); }
        }
    }

    private void lookCall(int which) {
        int a, n;
        switch (which) {
            case 0 -> { int base = heading();
                int one = Math.floorMod(base + within(-200, 200), 36000);
                int two = random.nextBoolean() ? heading() : Math.floorMod(base + within(-300, 300), 36000);
                int turn = random.nextInt(3);
                int[] shown = {turn == 0 ? base : one, turn == 1 ? base : two, turn == 0 ? one : turn == 1 ? two : base};
                due("look", x.look(shown[0], shown[1], shown[2]), y.look(shown[0], shown[1], shown[2])); }
            case 1 -> { n = random.nextBoolean() ? any(0, 9000) : within(0, 400);
                a = any(0, 1);
                due("wrong " + n + " " + a, x.wrong(n, a), y.wrong(n, a)); }
            case 2 -> { int h = heading(), showed = heading();
                due("about " + h + " " + showed, x.about(h, showed), y.about(h, showed)); }
            case 3 -> { a = any(0, 7);
                n = any(0, 1);
                due("needle " + a + " " + n, x.needle(a, n), y.needle(a, n)); }
            case 4 -> { if (random.nextInt(3) == 0) {
                    n = any(0, 60);
                    int off = near(-18000, 17999, 900);
                    due("watch " + n + " " + off, x.watch(n, off), y.watch(n, off)); } }
            case 5 -> { n = any(0, 999);
                a = any(0, 2);
                due("may " + n + " " + a, x.may(n, a), y.may(n, a)); }
            default -> { a = any(0, 7);
                due("count " + a, x.count(a), y.count(a)); }
        }
    }
}
