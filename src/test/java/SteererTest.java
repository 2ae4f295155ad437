/** Promises 16 to 21: steerers in texts, and how they steer. */
public final class SteererTest {
    private static final Checks c = new Checks();

    public static void main(String[] args) {
        write();
        erase();
        faultsOfWords();
        faultsOfNumbers();
        faultsOfLines();
        steerer();
        steers();
        course();
        steersByGainAndMeet();
        goesRoundNorth();
        steersWithinMost();
        steersBeyondDead();
        steersEvery();
        steersByEachPointer();
        forgetsItsLook();
        c.end();
    }

    private static int fault(String text) {
        NorthWheel x = new NorthWheel();
        Checks.write(x, text);
        int fault = x.fault();
        c.due("steerer of '" + text + "' is NOT", x.steerer() == NorthWheel.NOT ? 1 : 0, fault == NorthWheel.NONE ? 0 : 1);
        return fault;
    }

    private static void dueFault(String text, int want) {
        c.due("fault of '" + text + "'", fault(text), want);
    }

    private static void write() {
        c.says("n (1 .. 8) bytes more of THE TEXT, byte i being bytes >> 8 i & 255: how many it has. OUTSIDE; FULL.");
        NorthWheel x = new NorthWheel();
        c.due("write 0", x.write(0, 0), NorthWheel.OUTSIDE);
        c.due("write 9", x.write(0, 9), NorthWheel.OUTSIDE);
        c.due("write -1", x.write(0, -1), NorthWheel.OUTSIDE);
        for (int k = 1; k <= 19; k++) {
            c.due("write 8", x.write(-1L, 8), 8 * k);
        }
        c.due("write 7", x.write(0, 7), 159);
        c.due("too many", x.write(0, 2), NorthWheel.FULL);
        c.due("outside first", x.write(0, 9), NorthWheel.OUTSIDE);
        c.due("unchanged", x.count(4), 159);
        c.due("the last", x.write(0, 1), 160);
        c.due("full", x.write(0, 1), NorthWheel.FULL);
        c.due("text", x.count(4), 160);
        NorthWheel y = new NorthWheel();
        // the first byte is the lowest; bytes beyond n are left out
        c.due("by", y.write('b' | 'y' << 8 | '2' << 16 | '?' << 24, 3), 3);
        c.due("fault", y.fault(), NorthWheel.NONE);
        c.due("written on", y.write(0x8000000000000031L, 8), 11);
        c.due("by 21", y.fault(), 2);
    }

    private static void erase() {
        c.says("THE TEXT is empty: how many bytes it had.");
        NorthWheel x = new NorthWheel();
        c.due("erase nothing", x.erase(), 0);
        Checks.write(x, "gain 7");
        c.due("erase", x.erase(), 6);
        c.due("text", x.count(4), 0);
        c.due("fault", x.fault(), 0);
        Checks.write(x, "by 1");
        c.due("fault", x.fault(), NorthWheel.NONE);
        for (String behind : new String[] {"5", " 5", "x", ";", "5;by 1"}) {
            x.erase();
            Checks.write(x, "dead" + behind);
            x.erase();
            Checks.write(x, "dead");
            c.due("what was erased is not read", x.fault(), 4);
        }
    }

    private static void faultsOfWords() {
        c.says("The place of the FAULT (the byte with which the TOKEN begins, or the length); NONE.");
        dueFault("", 0);
        dueFault("   ", 3);
        dueFault("5", 0);
        dueFault(";", 0);
        dueFault("dea 5", 0);
        dueFault("deadd 5", 0);
        dueFault("  Dead 5", 2);
        dueFault("d ead 5", 0);
        dueFault("head 5", 0);
        dueFault("dead5;byz 1", 6);
        dueFault("dead5;aby 1", 6);
        dueFault("by 1{", 4);
        dueFault("by 1`", 4);
        dueFault("by 1/", 4);
        dueFault("by 1:", 4);
        dueFault("dead 5;\u00e9", 7);
        dueFault("dead 5; gains 1", 8);
        dueFault("dead\t5", 4);
        for (String word : new String[] {"dead", "gain", "meet", "most", "every", "by"}) {
            dueFault(word + " 1", NorthWheel.NONE);
            dueFault("  " + word + "1  ", NorthWheel.NONE);
            dueFault(word, word.length());
            dueFault(word + "  ", word.length() + 2);
            dueFault(word + " x", word.length() + 1);
            dueFault(word + ";", word.length());
            dueFault(word + " -1", word.length() + 1);
        }
    }

    private static void faultsOfNumbers() {
        c.says("that cannot stand there, a number out of its bounds also");
        for (String word : new String[] {"dead", "gain", "meet"}) {
            dueFault(word + " 0", NorthWheel.NONE);
            dueFault(word + " 999", NorthWheel.NONE);
            dueFault(word + " 000", NorthWheel.NONE);
            dueFault(word + " 1000", 5);
            dueFault(word + " 0000", 5);
            dueFault(word + " 99999999999999999999", 5);
        }
        dueFault("most 0", NorthWheel.NONE);
        dueFault("most 035", NorthWheel.NONE);
        dueFault("most 36", 5);
        dueFault("every 0", 6);
        dueFault("every 99", NorthWheel.NONE);
        dueFault("every 100", 6);
        dueFault("by 0", NorthWheel.NONE);
        dueFault("by 2", NorthWheel.NONE);
        dueFault("by 3", 3);
        dueFault("gain 5x", 6);
        dueFault("gain 5 6", 7);
        dueFault("gain 5 gain 6", 7);
        dueFault("gain 5.", 6);
    }

    private static void faultsOfLines() {
        c.says("LINES with ; (59) between, 8 at most, each one of: dead N. gain N. meet N. most N. every N. by P.");
        dueFault("by 1;", 5);
        dueFault("by 1 ; ", 7);
        dueFault("by 1;;by 1", 5);
        dueFault("by 1 by 2", 5);
        dueFault("by1;by1;by1;by1;by1;by1;by1;by1", NorthWheel.NONE);
        dueFault("by1;by1;by1;by1;by1;by1;by1;by1  ", NorthWheel.NONE);
        dueFault("by1;by1;by1;by1;by1;by1;by1;by1;", 31);
        dueFault("by1;by1;by1;by1;by1;by1;by1;by1 ;by1", 32);
        dueFault("by1;by1;by1;by1;by1;by1;by1;by1 x", 32);
        dueFault("by1;by1;by1;by1;by1;by1;by1;by3;by1", 30);
        dueFault("every 3;by 3;most 99", 11);
        dueFault(" ".repeat(160), 160);
        dueFault(" ".repeat(156) + "dead", 160);
        dueFault(" ".repeat(155) + "dead5", NorthWheel.NONE);
        dueFault(" ".repeat(154) + "dead5;", 160);
        dueFault("dead5" + " ".repeat(155), NorthWheel.NONE);
        dueFault("z".repeat(160), 0);
        dueFault("dead" + "0".repeat(156), 4);
    }

    private static void steerer() {
        c.says("THE TEXT becomes THE STEERER, and is empty then: how many LINES. NOT: a FAULT.");
        NorthWheel x = new NorthWheel();
        Checks.write(x, "gain 7;every 9;gain 8;most 3");
        c.due("steerer", x.steerer(), 4);
        c.due("text is empty", x.count(4), 0);
        dueSteers(x, 0, 8, 0, 3, 9, 0);
        c.due("steerer of nothing", x.steerer(), NorthWheel.NOT);
        Checks.write(x, "dead 3;gain 4;by 7");
        c.due("steerer with a fault", x.steerer(), NorthWheel.NOT);
        c.due("text stays", x.count(4), 18);
        dueSteers(x, 0, 8, 0, 3, 9, 0);
        x.erase();
        // what the new text does not tell is as at first again
        Checks.write(x, "by 2;dead 12;meet 34");
        c.due("steerer", x.steerer(), 3);
        dueSteers(x, 12, 100, 34, 35, 1, 2);
    }

    private static void dueSteers(NorthWheel x, int... numbers) {
        for (int k = 0; k < numbers.length; k++) {
            c.due("steers " + k, x.steers(k), numbers[k]);
        }
    }

    private static void steers() {
        c.says("Of THE STEERER: 0 dead, 1 gain, 2 meet, 3 most, 4 every, 5 by. OUTSIDE.");
        NorthWheel x = new NorthWheel();
        dueSteers(x, 0, 100, 0, 35, 1, 0);
        c.due("steers -1", x.steers(-1), NorthWheel.OUTSIDE);
        c.due("steers 6", x.steers(6), NorthWheel.OUTSIDE);
    }

    private static void course() {
        c.says("COURSE: that which it was. OUTSIDE.");
        NorthWheel x = new NorthWheel();
        c.due("course", x.course(35999), 0);
        c.due("course -1", x.course(-1), NorthWheel.OUTSIDE);
        c.due("course 36000", x.course(36000), NorthWheel.OUTSIDE);
        c.due("course", x.course(5), 35999);
    }

    /** A ship whose pointer 0 shows her heading, with that steerer. */
    private static NorthWheel steered(String text) {
        NorthWheel x = new NorthWheel();
        x.kind(0, 1);
        Checks.write(x, text);
        x.steerer();
        return x;
    }

    private static void steersByGainAndMeet() {
        c.says("OUT times gain by 10000, CUT, less GOES times meet by 10000, CUT");
        NorthWheel x = steered("gain 77;meet 55");
        x.course(1234);
        // 1234 times 77 by 10000 is 9.5
        c.due("first look", x.run(1, true), 180);
        c.due("rudder", x.count(2), 59);
        // out 1054: 8.1; goes 180: 0.99, each cut
        c.due("second look", x.run(1, true), 340);
        x.sea(999);
        x.run(1, true);
        x.calm();
        // heading 1479 (340 + 140 + 999): out -245: -1.9; goes 1139: 6.3
        c.due("heading", x.count(1), 340 + 6 * 20 + 999);
        x.run(1, true);
        c.due("rudder", x.count(2), 50 - 1 - 6);
        NorthWheel y = steered("gain 99");
        y.course(20000);
        // the shorter way round: -16000 times 99 by 10000 is -158.4
        c.due("other way", y.run(1, true), 36000 - 700);
    }

    private static void goesRoundNorth() {
        c.says("what it SHOWS less what it did when it was looked at last (likewise; 0 the first time)");
        NorthWheel x = steered("gain 0;meet 100");
        x.course(9000);
        x.head(35900);
        x.run(1, true);
        x.head(200);
        x.run(1, true);
        c.due("goes 300, not 35700 back", x.count(2), 47);
        x.head(35700);
        x.run(1, true);
        c.due("goes 500 back", x.count(2), 55);
    }

    private static void steersWithinMost() {
        c.says("most at most either way");
        NorthWheel x = steered("most 3;gain 999");
        x.course(9000);
        c.due("most", x.run(1, true), 60);
        x.course(27000);
        c.due("most, other way", x.run(1, true), 0);
        c.due("rudder", x.count(2), 47);
        NorthWheel y = steered("most 0;gain 999");
        y.course(9000);
        c.due("none", y.run(9, true), 0);
    }

    private static void steersBeyondDead() {
        c.says("RUDDER becomes 0, if OUT without sign is at most 10 times dead");
        NorthWheel x = steered("dead 20;gain 999");
        x.course(200);
        c.due("at most 10 times dead", x.run(1, true), 0);
        x.course(201);
        c.due("beyond", x.run(1, true), 400);
        x.course(200);
        c.due("rudder becomes 0", x.run(1, true), 400);
        c.due("rudder", x.count(2), 50);
    }

    private static void steersEvery() {
        c.says("ahead of a TICK whose number is a multiple of every");
        NorthWheel x = steered("every 3;gain 100;meet 100");
        x.run(1, false);
        x.course(1000);
        x.set(3, 1);
        c.due("tick 1: as it is", x.run(1, true), 20);
        c.due("tick 2: as it is", x.run(1, true), 40);
        // tick 3: out 960: 9.6
        c.due("tick 3", x.run(1, true), 220);
        c.due("ticks 4, 5", x.run(2, true), 580);
        // tick 6: out 420: 4.2; goes 540: 5.4
        c.due("tick 6", x.run(1, true), 560);
        c.due("rudder", x.count(2), 49);
    }

    private static void steersByEachPointer() {
        c.says("what is OUT is the COURSE less what the POINTER SHOWS");
        for (int by = 0; by < 3; by++) {
            NorthWheel x = new NorthWheel();
            for (int p = 0; p < 3; p++) {
                x.kind(p, 1);
                x.off(p, -1000 * (p + 1));
            }
            Checks.write(x, "by " + by);
            x.steerer();
            x.run(1, true);
            c.due("rudder by " + by, x.count(2), 50 - 10 * (by + 1));
        }
    }

    private static void forgetsItsLook() {
        c.says("When a STEERER or COURSE is told, it was not looked at.");
        NorthWheel x = steered("meet 100;gain 0");
        x.set(3, 10);
        x.run(1, true);
        c.due("first time: goes 0", x.count(2), 50);
        x.head(500);
        x.run(1, true);
        c.due("goes 500", x.count(2), 45);
        x.course(36000);
        x.head(100);
        x.run(1, true);
        c.due("a refused course is none: goes -400", x.count(2), 54);
        x.course(0);
        x.head(900);
        x.run(1, true);
        c.due("course told", x.count(2), 50);
        x.steerer();
        x.head(1900);
        x.run(1, true);
        c.due("a refused steerer is none", x.count(2), 40);
        Checks.write(x, "meet 100;gain 0");
        x.steerer();
        x.head(1200);
        x.run(1, true);
        c.due("steerer told", x.count(2), 50);
        x.set(3, 0);
        x.head(700);
        x.run(1, false);
        x.head(600);
        x.run(1, true);
        c.due("unsteered ticks are not looked at", x.count(2), 56);
        Checks.write(x, "meet 100;gain 0;dead 40");
        x.steerer();
        x.head(300);
        x.run(1, true);
        x.head(600);
        x.run(1, true);
        c.due("looked at though dead", x.count(2), 47);
    }
}
