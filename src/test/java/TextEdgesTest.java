/** The edges that the document's second part names, sentence by sentence: texts, faults, steering. */
public final class TextEdgesTest {
    private static final int NONE = NorthWheel.NONE, NOT = NorthWheel.NOT, FULL = NorthWheel.FULL;
    private static final String[] WORDS = {"dead", "gain", "meet", "most", "every", "by"};
    private static final int[] LEAST = {0, 0, 0, 0, 1, 0};
    private static final int[] GREATEST = {999, 999, 999, 35, 99, 2};
    private static final int[] FIRST = {0, 100, 0, 35, 1, 0};
    private static final Checks c = new Checks();

    public static void main(String[] args) {
        textFull();
        textErased();
        bytesOfALong();
        eightLines();
        emptyLines();
        numbersAtTheirBounds();
        oneToThreeDigits();
        blanksBetween();
        lettersAndDigitsEnd();
        wholeWords();
        firstFaultOnly();
        endTooSoon();
        becomesTheSteerer();
        lastLineOfAWord();
        withoutALine();
        everyTick();
        outGoesRound();
        goesGoesRound();
        goesTheFirstTime();
        notLookedAt();
        deadLine();
        gainIsCut();
        meetIsCut();
        mostEitherWay();
        byEachPointer();
        c.end();
    }

    private static void due(String text, int want) {
        NorthWheel x = new NorthWheel();
        Checks.write(x, text);
        c.due("fault of '" + text + "'", x.fault(), want);
        c.due("bytes of '" + text + "' stay", x.count(4), text.length());
        c.holds("steerer of '" + text + "'", x.steerer() == NOT == (want != NONE));
        c.due("bytes of '" + text + "' then", x.count(4), want == NONE ? 0 : text.length());
    }

    private static void textFull() {
        c.says("THE TEXT is a row of bytes, 160 at most");
        for (int n = 1; n <= 8; n++) {
            NorthWheel x = new NorthWheel();
            for (int k = 1; k <= 19; k++) {
                x.write(0x2020202020202020L, 8);
            }
            c.due("up to where " + n + " more just fit", x.write(0x2020202020202020L, 8 - n % 8), 160 - n % 8);
            if (n < 8) {
                c.due(n + 1 + " do not fit", x.write(-1L, n + 1), FULL);
                c.due("no byte of them is written", x.count(4), 160 - n);
                c.due(n + " fit", x.write(-1L, n), 160);
            }
            c.due("one more", x.write(0, 1), FULL);
            c.due("160", x.count(4), 160);
        }
        due("dead 1" + " ".repeat(153) + ";", 160);
        due("dead 1;" + " ".repeat(148) + "gain5", NONE);
        due("dead 1;" + " ".repeat(149) + "gain", 160);
    }

    private static void textErased() {
        c.says("THE TEXT is empty: how many bytes it had.");
        NorthWheel x = new NorthWheel();
        c.due("an empty one", x.erase(), 0);
        Checks.write(x, "x");
        c.due("one byte", x.erase(), 1);
        Checks.write(x, "y".repeat(160));
        c.due("a full one", x.erase(), 160);
        c.due("empty", x.count(4), 0);
        c.due("its fault", x.fault(), 0);
        c.due("room again", Checks.write(x, "z".repeat(160)), 160);
    }

    private static void bytesOfALong() {
        c.says("byte i being bytes >> 8 i & 255: how many it has.");
        NorthWheel x = new NorthWheel();
        // 'b' 'y' ' ' '1' ';' 'b' 'y' '2', the first lowest
        c.due("eight", x.write(0x3279623b31207962L, 8), 8);
        c.due("two lines", x.steerer(), 2);
        c.due("by", x.steers(5), 2);
        c.due("three of eight", x.write(0xff9980ff31207962L, 4), 4);
        c.due("what is beyond is left out", x.fault(), NONE);
        for (int high : new int[] {128, 233, 255}) {
            NorthWheel y = new NorthWheel();
            Checks.write(y, "by 1");
            y.write((long) high << 56, 8);
            // seven bytes 0 and one above 127: none of them can stand there
            c.due("a byte 0", y.fault(), 4);
            NorthWheel z = new NorthWheel();
            z.write((long) high << 24 | 0x207962, 4);
            c.due("byte " + high, z.fault(), 3);
        }
    }

    private static void eightLines() {
        c.says("LINES with ; (59) between, 8 at most");
        String seven = "by1;by1;by1;by1;by1;by1;by1";
        due("by1", NONE);
        due(seven, NONE);
        due(seven + ";by1", NONE);
        due(seven + ";by1;", 31);
        due(seven + ";by1;by1", 31);
        due(seven + ";by1;x", 31);
        due(seven + ";by1 ; ", 32);
        due(seven + ";", 28);
        NorthWheel x = new NorthWheel();
        Checks.write(x, seven + ";by1");
        c.due("eight", x.steerer(), 8);
        Checks.write(x, "by1");
        c.due("one", x.steerer(), 1);
    }

    private static void emptyLines() {
        c.says("LINES with ; (59) between, 8 at most");
        due(";", 0);
        due(";by 1", 0);
        due("by 1;;by 1", 5);
        due("by 1; ;by 1", 6);
        due("by 1;", 5);
        due("by 1:by 1", 4);
        due("by 1<by 1", 4);
    }

    private static void numbersAtTheirBounds() {
        c.says("N 0 .. 999, most 0 .. 35, every 1 .. 99, P 0 .. 2");
        for (int w = 0; w < WORDS.length; w++) {
            int at = WORDS[w].length() + 1;
            for (int number : new int[] {LEAST[w], GREATEST[w]}) {
                due(WORDS[w] + " " + number, NONE);
                NorthWheel x = new NorthWheel();
                Checks.write(x, WORDS[w] + " " + number);
                c.due("steerer", x.steerer(), 1);
                c.due(WORDS[w], x.steers(w), number);
            }
            due(WORDS[w] + " " + (GREATEST[w] + 1), at);
            due(WORDS[w] + " -1", at);
        }
        due("every 0", 6);
        due("every 000", 6);
        due("every 001", NONE);
        due("every 099", NONE);
        due("by 002", NONE);
        due("by 003", 3);
        due("most 036", 5);
    }

    private static void oneToThreeDigits() {
        c.says("numbers of 1 to 3 digits");
        due("gain 7", NONE);
        due("gain 77", NONE);
        due("gain 777", NONE);
        due("gain 7777", 5);
        due("gain 0007", 5);
        due("gain 4294967297", 5);
        due("gain 18446744073709551617", 5);
        due("gain ", 5);
        due("gain;", 4);
    }

    private static void blanksBetween() {
        c.says("blanks (32) between.");
        due("gain5", NONE);
        due("gain     5", NONE);
        due("  gain 5  ", NONE);
        due("gain 5 ; by 1", NONE);
        due("gain5;by1", NONE);
        due("ga in 5", 0);
        due("gain 5 5", 7);
        due("gain" + (char) 31 + "5", 4);
        due("gain" + (char) 33 + "5", 4);
        due("gain\t5", 4);
        due("gain\n5", 4);
        due("gain" + (char) 160 + "5", 4);
    }

    private static void lettersAndDigitsEnd() {
        c.says("TOKEN (a row of small letters, a row of digits, any other byte)");
        due("gain 5" + (char) 47, 6);
        due("gain 5" + (char) 58, 6);
        due("gain 5" + (char) 96, 6);
        due("gain 5" + (char) 123, 6);
        due("gain" + (char) 47, 4);
        due("gain" + (char) 58, 4);
        due("gain" + (char) 96 + " 5", 4);
        due("gain" + (char) 123 + " 5", 4);
        due("gaina 5", 0);
        due("gainz 5", 0);
        due("againa 5", 0);
        due("gain 0", NONE);
        due("gain 9", NONE);
        due("gain 5a", 6);
        due("gain 5z", 6);
        due("Gain 5", 0);
        due("gAin 5", 0);
        due("5gain 5", 0);
        due("gain 5!!", 6);
        due("!", 0);
        due(Character.toString((char) 0), 0);
        due(Character.toString((char) 255), 0);
    }

    private static void wholeWords() {
        c.says("dead N. gain N. meet N. most N. every N. by P.");
        for (String word : WORDS) {
            due(word + " 1", NONE);
            due(word.substring(1) + " 1", 0);
            due(word.substring(0, word.length() - 1) + " 1", 0);
            due(word + word + " 1", 0);
            due("by 1; " + word.toUpperCase() + " 1", 6);
            due("by 1; " + word + word.charAt(0) + " 1", 6);
        }
        due("head 1", 0);
        due("deat 1", 0);
        due("meed 1", 0);
        due("evere 1", 0);
        due("b 1", 0);
        due("bz 1", 0);
        due("x 1", 0);
    }

    private static void firstFaultOnly() {
        c.says("A FAULT is at the first TOKEN");
        due("by 3;by 4;every 0", 3);
        due("by 2;by 4;every 0", 8);
        due("by 2;by 0;every 0", 16);
        due("x;y;z", 0);
        due("by 1 by 1 by", 5);
    }

    private static void endTooSoon() {
        c.says("or at the end, if it comes too soon");
        c.says("The place of the FAULT (the byte with which the TOKEN begins, or the length); NONE.");
        due("", 0);
        due(" ", 1);
        due("by", 2);
        due("by ", 3);
        due("by 1;", 5);
        due("by 1; ", 6);
        due("by 1;by", 7);
        due("by 1; by  ", 10);
        due("by 1", NONE);
    }

    private static void becomesTheSteerer() {
        c.says("THE TEXT becomes THE STEERER, and is empty then: how many LINES.");
        NorthWheel x = new NorthWheel();
        c.due("of an empty text", x.steerer(), NOT);
        Checks.write(x, "dead 9;gain 8");
        c.due("two lines", x.steerer(), 2);
        c.due("empty then", x.count(4), 0);
        c.due("its fault then", x.fault(), 0);
        c.due("again", x.steerer(), NOT);
        c.due("dead", x.steers(0), 9);
        c.due("gain", x.steers(1), 8);
    }

    private static void lastLineOfAWord() {
        c.says("of each word the last LINE");
        for (int w = 0; w < WORDS.length; w++) {
            NorthWheel x = new NorthWheel();
            String other = w == 0 ? "gain 3" : "dead 3";
            Checks.write(x, WORDS[w] + " 2;" + other + ";" + WORDS[w] + "1;" + other);
            c.due("lines", x.steerer(), 4);
            c.due(WORDS[w], x.steers(w), 1);
        }
    }

    private static void withoutALine() {
        c.says("without one (and at first): dead 0, gain 100, meet 0, most 35, every 1, by 0.");
        NorthWheel x = new NorthWheel();
        for (int w = 0; w < WORDS.length; w++) {
            c.due("at first " + WORDS[w], x.steers(w), FIRST[w]);
        }
        for (int told = 0; told < WORDS.length; told++) {
            Checks.write(x, "dead 7;gain 7;meet 7;most 7;every 7;by 1");
            x.steerer();
            Checks.write(x, WORDS[told] + " 2");
            x.steerer();
            for (int w = 0; w < WORDS.length; w++) {
                c.due("without " + WORDS[w], x.steers(w), w == told ? 2 : FIRST[w]);
            }
        }
    }

    /** A ship whose pointer 0 shows her heading, with that steerer, for that course. */
    private static NorthWheel steered(String text, int course) {
        NorthWheel x = new NorthWheel();
        x.kind(0, 1);
        Checks.write(x, text);
        c.holds("steerer of '" + text + "'", x.steerer() > 0);
        x.course(course);
        return x;
    }

    /** The rudder behind a tick at that heading. */
    private static int rudderAt(NorthWheel x, int heading) {
        x.head(heading);
        x.run(1, true);
        return x.count(2) - 50;
    }

    private static void everyTick() {
        c.says("ahead of a TICK whose number is a multiple of every");
        c.says("At other TICKS it stays.");
        int[] ticks = {0, 1, 2, 3, 97, 98, 99, 100, 195, 196, 197, 198, 199};
        for (int every : new int[] {1, 2, 98, 99}) {
            NorthWheel x = steered("every " + every, 0);
            x.set(2, 0);
            for (int tick : ticks) {
                if (tick > x.count(0)) {
                    x.run(tick - x.count(0), false);
                }
                x.set(3, 7);
                c.due("tick " + tick + " of every " + every, rudderAt(x, 35000), tick % every == 0 ? 10 : 7);
            }
        }
        NorthWheel y = steered("every 3", 1000);
        y.run(2, false);
        y.set(3, -9);
        y.run(1, true);
        c.due("tick 2 is none, though the first steered", y.count(2), 41);
        y.run(1, true);
        c.holds("tick 3 is one", y.count(2) != 41);
    }

    private static void outGoesRound() {
        c.says("what is OUT is the COURSE less what the POINTER SHOWS (as what is OFF is told)");
        int[][] outs = {{0, 0, 0}, {18000, 0, -18}, {17999, 0, 17}, {18001, 0, -17}, {0, 18000, -18}, {0, 18001, 17},
            {0, 17999, -17}, {35999, 0, 0}, {35000, 0, -1}, {0, 35000, 1}, {500, 35500, 1}, {35500, 500, -1}};
        for (int[] o : outs) {
            NorthWheel x = steered("gain 10", o[0]);
            c.due("course " + o[0] + " at " + o[1], rudderAt(x, o[1]), o[2]);
        }
    }

    private static void goesGoesRound() {
        c.says("GOES: what it SHOWS less what it did when it was looked at last (likewise; 0 the first time).");
        int[][] goes = {{0, 18000, 18}, {0, 17999, -17}, {0, 18001, 17}, {18000, 0, 18}, {18001, 0, -17}, {35999, 1000, -1},
            {35999, 998, 0}, {1000, 35999, 1}, {998, 35999, 0}};
        for (int[] g : goes) {
            NorthWheel x = steered("gain 0;meet 10", 9000);
            x.set(2, 0);
            c.due("first", rudderAt(x, g[0]), 0);
            c.due("from " + g[0] + " to " + g[1], rudderAt(x, g[1]), g[2]);
        }
        NorthWheel y = steered("gain 0;meet 100;every 2", 9000);
        y.set(2, 0);
        rudderAt(y, 100);
        rudderAt(y, 700);
        c.due("looked at last two ticks ago", rudderAt(y, 900), -8);
        y.head(5000);
        y.run(3, false);
        c.due("not looked at when not steered", rudderAt(y, 1000), -1);
    }

    private static void goesTheFirstTime() {
        c.says("GOES: what it SHOWS less what it did when it was looked at last (likewise; 0 the first time).");
        for (int heading : new int[] {0, 1, 5000, 18000, 35999}) {
            NorthWheel x = steered("gain 0;meet 999", 9000);
            c.due("at " + heading, rudderAt(x, heading), 0);
        }
        NorthWheel y = new NorthWheel();
        y.kind(0, 1);
        y.head(5000);
        c.due("a new object's own", y.run(1, true), 5000 - 700);
    }

    private static void notLookedAt() {
        c.says("When a STEERER or COURSE is told, it was not looked at.");
        NorthWheel x = steered("gain 0;meet 100", 9000);
        x.set(2, 0);
        rudderAt(x, 0);
        c.due("goes", rudderAt(x, 500), -5);
        x.course(9000);
        c.due("the same course told", rudderAt(x, 1500), 0);
        c.due("goes again", rudderAt(x, 1000), 5);
        Checks.write(x, "gain 0;meet 100");
        x.steerer();
        c.due("the same steerer told", rudderAt(x, 2000), 0);
        c.due("goes again", rudderAt(x, 2700), -7);
        x.course(36000);
        c.due("a refused course is not told", rudderAt(x, 2500), 2);
        Checks.write(x, "gain");
        x.steerer();
        c.due("a refused steerer is not told", rudderAt(x, 2600), -1);
        x.kept(5, 0, 0);
        x.bestDead(5, 0);
        c.due("a trial looks at nothing", rudderAt(x, 3000), -4);
    }

    private static void deadLine() {
        c.says("RUDDER becomes 0, if OUT without sign is at most 10 times dead");
        int[][] deads = {{0, 0, 0}, {0, 1, 1}, {1, 10, 0}, {1, 11, 1}, {999, 9990, 0}, {999, 9991, 1}};
        for (int[] d : deads) {
            for (int sign = -1; sign <= 1; sign += 2) {
                NorthWheel x = steered("gain 999;meet 999;most 1;dead " + d[0], 10000);
                x.set(3, 30);
                // near 0 the gain alone would be cut to 0: the second look's going tells that it answers
                rudderAt(x, Math.floorMod(10000 - sign * d[1] + sign * 100, 36000));
                x.set(3, 30);
                c.due("dead " + d[0] + " out " + sign * d[1], rudderAt(x, 10000 - sign * d[1]), sign * d[2]);
            }
        }
    }

    private static void gainIsCut() {
        c.says("else OUT times gain by 10000, CUT");
        int[][] gains = {{9999, 1, 0}, {10000, 1, 1}, {10001, 1, 1}, {99, 100, 0}, {100, 100, 1}, {199, 100, 1}, {200, 100, 2},
            {5000, 0, 0}, {3500, 99, 34}, {3500, 100, 35}};
        for (int[] g : gains) {
            NorthWheel x = steered("gain " + g[1], g[0]);
            c.due("out " + g[0] + " gain " + g[1], rudderAt(x, 0), g[2]);
            NorthWheel y = steered("gain " + g[1], 36000 - g[0]);
            c.due("out -" + g[0] + " gain " + g[1], rudderAt(y, 0), -g[2]);
        }
    }

    private static void meetIsCut() {
        c.says("less GOES times meet by 10000, CUT, most at most either way.");
        int[][] meets = {{9999, 1, 0}, {10000, 1, 1}, {99, 100, 0}, {100, 100, 1}, {199, 100, 1}, {200, 100, 2}, {5000, 0, 0}};
        for (int[] m : meets) {
            for (int sign = -1; sign <= 1; sign += 2) {
                NorthWheel x = steered("gain 0;meet " + m[1], 90);
                x.set(2, 0);
                rudderAt(x, 0);
                c.due("goes " + sign * m[0] + " meet " + m[1], rudderAt(x, Math.floorMod(sign * m[0], 36000)), -sign * m[2]);
            }
        }
        // out 199 less than 2 at gain 100: 1; goes -99 at meet 100: 0; together they would be 2
        NorthWheel y = steered("gain 100;meet 100", 1000);
        y.set(2, 0);
        rudderAt(y, 900);
        c.due("each is cut alone", rudderAt(y, 801), 1);
    }

    private static void mostEitherWay() {
        c.says("less GOES times meet by 10000, CUT, most at most either way.");
        int[][] mosts = {{35, 3400, 34}, {35, 3500, 35}, {35, 3600, 35}, {35, 17999, 35}, {1, 100, 1}, {1, 200, 1}, {0, 9000, 0},
            {20, 1900, 19}, {20, 2000, 20}, {20, 2100, 20}};
        for (int[] m : mosts) {
            NorthWheel x = steered("most " + m[0], m[1]);
            c.due("most " + m[0] + " out " + m[1], rudderAt(x, 0), m[2]);
            NorthWheel y = steered("most " + m[0], 36000 - m[1]);
            c.due("most " + m[0] + " out -" + m[1], rudderAt(y, 0), -m[2]);
        }
        // out 3000: 30, bounded only behind the meeting: 30 less 25
        NorthWheel z = steered("most 5;gain 100;meet 100", 3000);
        z.set(2, 0);
        rudderAt(z, 33500);
        c.due("of the difference", rudderAt(z, 0), 5);
        c.due("of the difference, back", rudderAt(z, 2000), -5);
        NorthWheel w = steered("most 5;gain 100;meet 100", 3000);
        w.set(2, 0);
        rudderAt(w, 33300);
        c.due("30 less 27, not 5 less 27", rudderAt(w, 0), 3);
    }

    private static void byEachPointer() {
        c.says("P 0 .. 2");
        for (int by = 0; by <= 2; by++) {
            NorthWheel x = new NorthWheel();
            x.head(18000);
            x.course(18000);
            for (int p = 0; p <= 2; p++) {
                x.kind(p, 1);
                x.off(p, 500 * (p + 1));
            }
            Checks.write(x, "by " + by);
            x.steerer();
            x.run(1, true);
            c.due("by " + by, x.count(2), 50 + 5 * (by + 1));
            x.kind(by, 0);
            x.head(18000);
            x.course(9000);
            x.run(1, true);
            c.due("by one that is dead and shows 0", x.count(2), 50 + 35);
        }
    }
}
