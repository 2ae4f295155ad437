import java.util.List;
import java.util.function.Supplier;

/** The bounds of each number of each call, which refusal comes first, and that what is refused or asked changes nothing. */
public final class RefusedTest {
    private static final int UNKNOWN = NorthWheel.UNKNOWN, OUTSIDE = NorthWheel.OUTSIDE, FULL = NorthWheel.FULL;
    private static final Checks c = new Checks();
    private static final List<Integer> NEW = Wheels.allThatItTells(new NorthWheel());
    private static final List<Integer> UNDER_WAY = Wheels.allThatItTells(Wheels.underWay());
    private static final List<Integer> AT_FULL = Wheels.allThatItTells(Wheels.full());

    /** A call with one number left open. */
    private interface Ask {
        int on(NorthWheel x, int v);
    }

    private interface Call {
        int on(NorthWheel x);
    }

    public static void main(String[] args) {
        theStatesDiffer();
        shipBounds();
        pointerBounds();
        pointerNumbers();
        steererBounds();
        trialBounds();
        quickTurnBounds();
        lookBounds();
        unknownComesFirst();
        outsideComesAheadOfFull();
        fullChangesNothing();
        notChangesNothing();
        askingChangesNothing();
        bothStrayAtOnce();
        lastPromisedCall();
        c.end();
    }

    /** Else comparing with them would tell nothing. */
    private static void theStatesDiffer() {
        c.holds("under way it tells other things than when new", !NEW.equals(UNDER_WAY));
        c.holds("full it tells other things than under way", !UNDER_WAY.equals(AT_FULL));
        c.holds("the same calls tell the same", UNDER_WAY.equals(Wheels.allThatItTells(Wheels.underWay())));
    }

    private static void dueUnchanged(String name, Supplier<NorthWheel> state, List<Integer> told, Call call, int want) {
        NorthWheel x = state.get();
        c.due(name, call.on(x), want);
        c.holds(name + " changes nothing", told.equals(Wheels.allThatItTells(x)));
    }

    private static void refused(String name, int want, Call call) {
        dueUnchanged(name + ", new,", NorthWheel::new, NEW, call, want);
        dueUnchanged(name + ", under way,", Wheels::underWay, UNDER_WAY, call, want);
        dueUnchanged(name + ", full,", Wheels::full, AT_FULL, call, want);
    }

    private static void taken(String name, Call call) {
        int got = call.on(new NorthWheel());
        c.holds(name + " is taken, not " + got, got >= NorthWheel.NONE);
        got = call.on(Wheels.underWay());
        c.holds(name + ", under way, is taken, not " + got, got >= NorthWheel.NONE);
    }

    /** Just inside and just outside, and far outside. */
    private static void bounds(String name, int least, int greatest, int refusal, Ask ask) {
        taken(name + " " + least, x -> ask.on(x, least));
        taken(name + " " + greatest, x -> ask.on(x, greatest));
        for (int v : new int[] {least - 1, greatest + 1, Integer.MIN_VALUE, Integer.MAX_VALUE}) {
            refused(name + " " + v, refusal, x -> ask.on(x, v));
        }
    }

    private static void shipBounds() {
        c.says("PLACE (what 0), SPEED (1), AGILE (2), RUDDER (3)");
        bounds("what", 0, 3, OUTSIDE, (x, v) -> x.set(v, 0));
        c.says("PLACE is a number -89 .. 89");
        bounds("set PLACE", -89, 89, OUTSIDE, (x, v) -> x.set(0, v));
        bounds("told PLACE", -89, 89, OUTSIDE, (x, v) -> x.told(1, 0, v));
        bounds("lean PLACE", -89, 89, OUTSIDE, (x, v) -> x.lean(0, v, 0));
        c.says("a SPEED (0 .. 40; 0 at first)");
        bounds("set SPEED", 0, 40, OUTSIDE, (x, v) -> x.set(1, v));
        bounds("told SPEED", 0, 40, OUTSIDE, (x, v) -> x.told(1, v, 0));
        bounds("lean SPEED", 0, 40, OUTSIDE, (x, v) -> x.lean(v, 0, 0));
        c.says("AGILE (0 .. 99; 20 at first)");
        bounds("set AGILE", 0, 99, OUTSIDE, (x, v) -> x.set(2, v));
        c.says("a RUDDER (-35 .. 35; 0 at first)");
        bounds("set RUDDER", -35, 35, OUTSIDE, (x, v) -> x.set(3, v));
        c.says("OUTSIDE (0 .. 35999).");
        bounds("head", 0, 35999, OUTSIDE, (x, v) -> x.head(v));
        bounds("lean HEADING", 0, 35999, OUTSIDE, (x, v) -> x.lean(0, 0, v));
        bounds("deviation HEADING", 0, 35999, OUTSIDE, (x, v) -> x.deviation(v));
        c.says("a row of YAWS (24 at most, -999 .. 999; none at first)");
        bounds("sea", -999, 999, OUTSIDE, (x, v) -> x.sea(v));
        c.says("DEVIATION at eighth k (0 .. 7): 1. OUTSIDE.");
        bounds("iron k", 0, 7, OUTSIDE, (x, v) -> x.iron(v, 0));
        c.says("-2000 .. 2000 each");
        bounds("iron v", -2000, 2000, OUTSIDE, (x, v) -> x.iron(3, v));
        c.says("n TICKS (1 .. 500) go by");
        bounds("run", 1, 500, OUTSIDE, (x, v) -> x.run(v, false));
        bounds("run steered", 1, 500, OUTSIDE, (x, v) -> x.run(v, true));
    }

    private static void pointerBounds() {
        c.says("POINTERS are 0, 1, 2");
        bounds("kind", 0, 2, UNKNOWN, (x, v) -> x.kind(v, 1));
        bounds("tune", 0, 2, UNKNOWN, (x, v) -> x.tune(v, 0, 1));
        bounds("off", 0, 2, UNKNOWN, (x, v) -> x.off(v, 1));
        bounds("told", 0, 2, UNKNOWN, (x, v) -> x.told(v, 1, 1));
        bounds("shows", 0, 2, UNKNOWN, (x, v) -> x.shows(v));
        bounds("now", 0, 2, UNKNOWN, (x, v) -> x.now(v, 0));
        bounds("swing", 0, 2, UNKNOWN, (x, v) -> x.swing(v, 500, true, 0));
        bounds("noUse", 0, 2, UNKNOWN, (x, v) -> x.noUse(v));
        bounds("turned", 0, 2, UNKNOWN, (x, v) -> x.turned(v, 5, 3, 9));
        bounds("bestPull", 0, 2, UNKNOWN, (x, v) -> x.bestPull(v, 5, 3, 9));
    }

    private static void pointerNumbers() {
        c.says("each of a KIND: 0 DEAD (at first), 1 FREE, 2 SEEKING, 3 DAMPED, 4 CORRECTED, 5 IRON");
        bounds("kind", 0, 5, OUTSIDE, (x, v) -> x.kind(2, v));
        c.says("PULL (what 0), DAMP (1), KICK (2) of a POINTER");
        bounds("tune what", 0, 2, OUTSIDE, (x, v) -> x.tune(2, v, 0));
        c.says("PULL (0 .. 99; 10 at first)");
        bounds("PULL", 0, 99, OUTSIDE, (x, v) -> x.tune(0, 0, v));
        c.says("DAMP (0 .. 99; 20 at first)");
        bounds("DAMP", 0, 99, OUTSIDE, (x, v) -> x.tune(1, 1, v));
        c.says("KICK (0 .. 99; 0 at first)");
        bounds("KICK", 0, 99, OUTSIDE, (x, v) -> x.tune(2, 2, v));
        c.says("what is OFF -18000 .. 17999");
        bounds("off", -18000, 17999, OUTSIDE, (x, v) -> x.off(2, v));
        c.says("OFF (what 0), RATE (1), both and 50000. UNKNOWN; OUTSIDE.");
        bounds("now what", 0, 1, OUTSIDE, (x, v) -> x.now(0, v));
    }

    private static void steererBounds() {
        c.says("n (1 .. 8) bytes more of THE TEXT");
        bounds("write n", 1, 8, OUTSIDE, (x, v) -> x.write(0x3020646165646420L, v));
        c.says("0 dead, 1 gain, 2 meet, 3 most, 4 every, 5 by. OUTSIDE.");
        bounds("steers what", 0, 5, OUTSIDE, (x, v) -> x.steers(v));
        c.says("COURSE: that which it was. OUTSIDE.");
        bounds("course", 0, 35999, OUTSIDE, (x, v) -> x.course(v));
    }

    private static void trialBounds() {
        c.says("from an OFF (-9000 .. 9000, not 0)");
        bounds("swing off", -9000, 9000, OUTSIDE, (x, v) -> x.swing(0, v, true, 0));
        bounds("swing off below 0", -9000, -1, OUTSIDE, (x, v) -> x.swing(1, v, false, 1));
        bounds("swing off above 0", 1, 9000, OUTSIDE, (x, v) -> x.swing(2, v, true, 2));
        c.says("CROSSES (what 0), BEYOND and 50000 (1), RESTS (2); NONE. UNKNOWN; OUTSIDE.");
        bounds("swing what", 0, 2, OUTSIDE, (x, v) -> x.swing(0, 900, true, v));
        c.says("KEPT for n TICKS (1 .. 300) from now on");
        bounds("kept n", 1, 300, OUTSIDE, (x, v) -> x.kept(v, 0, 0));
        bounds("bestDead n", 1, 300, OUTSIDE, (x, v) -> x.bestDead(v, 900));
        c.says("OUTSIDE: n, dead (0 .. 999), what.");
        bounds("kept dead", 0, 999, OUTSIDE, (x, v) -> x.kept(9, v, 0));
        c.says("KEPT: WORST (what 0), DEAR (1).");
        bounds("kept what", 0, 1, OUTSIDE, (x, v) -> x.kept(9, 0, v));
        c.says("with an allowance (0 .. 18000); NONE. OUTSIDE.");
        bounds("bestDead allowance", 0, 18000, OUTSIDE, (x, v) -> x.bestDead(9, v));
    }

    private static void quickTurnBounds() {
        c.says("in n TICKS (1 .. 300) in the first k (0 .. n) of which the SHIP has a TURN of t (-999 .. 999)");
        bounds("turned n", 1, 300, OUTSIDE, (x, v) -> x.turned(1, v, 0, 9));
        bounds("bestPull n", 1, 300, OUTSIDE, (x, v) -> x.bestPull(1, v, 0, 9));
        for (int n : new int[] {1, 10, 300}) {
            bounds("turned k of " + n, 0, n, OUTSIDE, (x, v) -> x.turned(1, n, v, 9));
            bounds("bestPull k of " + n, 0, n, OUTSIDE, (x, v) -> x.bestPull(1, n, v, 9));
            bounds("turned n for k " + n, n, 300, OUTSIDE, (x, v) -> x.turned(1, v, n, 9));
            bounds("bestPull n for k " + n, n, 300, OUTSIDE, (x, v) -> x.bestPull(1, v, n, 9));
        }
        bounds("turned t", -999, 999, OUTSIDE, (x, v) -> x.turned(1, 9, 3, v));
        bounds("bestPull t", -999, 999, OUTSIDE, (x, v) -> x.bestPull(1, 9, 3, v));
    }

    private static void lookBounds() {
        c.says("what all three POINTERS SHOWED at one time (three HEADINGS)");
        bounds("look a", 0, 35999, OUTSIDE, (x, v) -> x.look(v, 0, 0));
        bounds("look b", 0, 35999, OUTSIDE, (x, v) -> x.look(0, v, 0));
        bounds("look c", 0, 35999, OUTSIDE, (x, v) -> x.look(0, 0, v));
        c.says("ONE is WRONG by n (0 .. 9000)");
        bounds("wrong n", 0, 9000, OUTSIDE, (x, v) -> x.wrong(v, 0));
        c.says("SURE (what 0), MAY (1), by bits. OUTSIDE.");
        bounds("wrong what", 0, 1, OUTSIDE, (x, v) -> x.wrong(100, v));
        c.says("at a HEADING it SHOWED that: how many. OUTSIDE; FULL.");
        bounds("about heading", 0, 35999, OUTSIDE, (x, v) -> x.about(v, 0));
        bounds("about showed", 0, 35999, OUTSIDE, (x, v) -> x.about(0, v));
        c.says("Of an eighth (0 .. 7): the least (what 0), the greatest (1)");
        bounds("needle k", 0, 7, OUTSIDE, (x, v) -> x.needle(v, 0));
        bounds("needle what", 0, 1, OUTSIDE, (x, v) -> x.needle(0, v));
        c.says("behind so many TICKS (0 .. 60)");
        bounds("watch ticks", 0, 60, OUTSIDE, (x, v) -> x.watch(v, 0));
        c.says("OUTSIDE: ticks, off (-18000 .. 17999); FULL.");
        bounds("watch off", -18000, 17999, OUTSIDE, (x, v) -> x.watch(0, v));
        c.says("with which all WATCHED are at most n (0 .. 999) off");
        bounds("may n", 0, 999, OUTSIDE, (x, v) -> x.may(v, 0));
        c.says("how many (what 0), the first: 100 PULL and DAMP (1; NONE), NEXT (2; NONE). OUTSIDE.");
        bounds("may what", 0, 2, OUTSIDE, (x, v) -> x.may(100, v));
        c.says("0 TICKS, 1 HEADING, 2 RUDDER and 50, 3 YAWS, 4 bytes of THE TEXT, 5 LOOKS, 6 TURNED ABOUT, 7 WATCHED. OUTSIDE.");
        bounds("count what", 0, 7, OUTSIDE, (x, v) -> x.count(v));
    }

    private static void unknownComesFirst() {
        c.says("UNKNOWN (no such POINTER), OUTSIDE (another number is not as told), NOT (not now: as told), FULL: the first of these that fits.");
        for (int p : new int[] {-1, 3}) {
            refused("kind", UNKNOWN, x -> x.kind(p, 6));
            refused("tune what", UNKNOWN, x -> x.tune(p, 3, 0));
            refused("tune v", UNKNOWN, x -> x.tune(p, 0, 100));
            refused("off", UNKNOWN, x -> x.off(p, 18000));
            refused("told speed", UNKNOWN, x -> x.told(p, 41, 0));
            refused("told place", UNKNOWN, x -> x.told(p, 0, 90));
            refused("now", UNKNOWN, x -> x.now(p, 2));
            refused("swing off", UNKNOWN, x -> x.swing(p, 0, true, 0));
            refused("swing what", UNKNOWN, x -> x.swing(p, 1, true, 3));
            refused("turned", UNKNOWN, x -> x.turned(p, 0, 0, 1000));
            refused("bestPull", UNKNOWN, x -> x.bestPull(p, 301, 302, 0));
        }
    }

    private static void outsideComesAheadOfFull() {
        c.says("UNKNOWN (no such POINTER), OUTSIDE (another number is not as told), NOT (not now: as told), FULL: the first of these that fits.");
        refused("sea", OUTSIDE, x -> x.sea(1000));
        refused("write", OUTSIDE, x -> x.write(0, 9));
        refused("look", OUTSIDE, x -> x.look(0, 36000, 0));
        refused("about", OUTSIDE, x -> x.about(36000, 0));
        refused("watch", OUTSIDE, x -> x.watch(61, 0));
        c.says("OUTSIDE: also beyond 5000.");
        NorthWheel x = new NorthWheel();
        for (int k = 0; k < 9; k++) {
            x.run(500, false);
        }
        x.run(490, false);
        x.set(3, 1);
        c.due("11 more", x.run(11, false), OUTSIDE);
        c.due("500 more", x.run(500, true), OUTSIDE);
        c.due("TICKS are as they were", x.count(0), 4990);
        c.due("HEADING is as it was", x.count(1), 0);
        c.due("RUDDER is as it was", x.count(2), 51);
        c.due("10 more", x.run(10, false), 200);
        c.due("TICKS", x.count(0), 5000);
        c.due("1 more", x.run(1, true), OUTSIDE);
    }

    private static void fullChangesNothing() {
        c.says("Refused, and nothing changes");
        dueUnchanged("sea", Wheels::full, AT_FULL, x -> x.sea(999), FULL);
        for (int n = 1; n <= 8; n++) {
            int bytes = n;
            dueUnchanged("write of " + n, Wheels::full, AT_FULL, x -> x.write(-1L, bytes), FULL);
        }
        dueUnchanged("look", Wheels::full, AT_FULL, x -> x.look(9, 9, 9), FULL);
        dueUnchanged("about", Wheels::full, AT_FULL, x -> x.about(0, 17000), FULL);
        dueUnchanged("watch", Wheels::full, AT_FULL, x -> x.watch(60, 17999), FULL);
    }

    private static void notChangesNothing() {
        c.says("how many LINES. NOT: a FAULT.");
        dueUnchanged("steerer of an empty text", NorthWheel::new, NEW, x -> x.steerer(), NorthWheel.NOT);
        dueUnchanged("steerer of one that ends too soon", Wheels::underWay, UNDER_WAY, x -> x.steerer(), NorthWheel.NOT);
        c.holds("what is full may be a steerer", Wheels.full().steerer() == 4);
    }

    private static void asked(String name, Call call) {
        int got = call.on(Wheels.underWay());
        c.holds(name + " is answered, not " + got, got >= NorthWheel.NONE);
        dueUnchanged(name, Wheels::underWay, UNDER_WAY, call, got);
        dueUnchanged(name + ", full,", Wheels::full, AT_FULL, call, call.on(Wheels.full()));
        dueUnchanged(name + ", new,", NorthWheel::new, NEW, call, call.on(new NorthWheel()));
    }

    private static void askingChangesNothing() {
        c.says("(Nothing is changed.)");
        for (int k = 0; k < 3; k++) {
            int p = k;
            asked("swing", x -> x.swing(p, -9000, true, 2 - p));
            asked("swing, seeking", x -> x.swing(p, 7000, false, p));
            asked("noUse", x -> x.noUse(p));
            asked("turned", x -> x.turned(p, 300, 200, -999));
            asked("bestPull", x -> x.bestPull(p, 30, 20, 999));
            asked("shows", x -> x.shows(p));
            asked("now", x -> x.now(p, p % 2));
            asked("may", x -> x.may(999, p));
        }
        asked("kept", x -> x.kept(300, 999, 0));
        asked("kept, what it costs", x -> x.kept(31, 0, 1));
        asked("bestDead", x -> x.bestDead(25, 18000));
        asked("bestDead, none", x -> x.bestDead(25, 0));
        asked("lean", x -> x.lean(40, 89, 18000));
        asked("deviation", x -> x.deviation(35999));
        asked("fault", x -> x.fault());
        asked("steers", x -> x.steers(3));
        asked("wrong", x -> x.wrong(9000, 0));
        asked("needle", x -> x.needle(2, 1));
        asked("count", x -> x.count(7));
    }

    /** Two numbers outside at once, far away, so that no sum of them comes round into the bounds. */
    private static void bothStrayAtOnce() {
        c.says("OUTSIDE (another number is not as told)");
        for (int v : new int[] {Integer.MIN_VALUE, Integer.MAX_VALUE}) {
            refused("set", OUTSIDE, x -> x.set(v, v));
            refused("tune", OUTSIDE, x -> x.tune(0, v, v));
            refused("told", OUTSIDE, x -> x.told(0, v, v));
            refused("iron", OUTSIDE, x -> x.iron(v, v));
            refused("lean", OUTSIDE, x -> x.lean(v, v, v));
            refused("swing", OUTSIDE, x -> x.swing(0, v, false, v));
            refused("turned", OUTSIDE, x -> x.turned(0, v, v, v));
            refused("bestPull", OUTSIDE, x -> x.bestPull(0, v, v, v));
            refused("kept", OUTSIDE, x -> x.kept(v, v, v));
            refused("bestDead", OUTSIDE, x -> x.bestDead(v, v));
            refused("look", OUTSIDE, x -> x.look(v, v, v));
            refused("wrong", OUTSIDE, x -> x.wrong(v, v));
            refused("about", OUTSIDE, x -> x.about(v, v));
            refused("needle", OUTSIDE, x -> x.needle(v, v));
            refused("watch", OUTSIDE, x -> x.watch(v, v));
            refused("may", OUTSIDE, x -> x.may(v, v));
        }
    }

    private static void lastPromisedCall() {
        c.says("An object is used for at most 512 calls after it has been made");
        NorthWheel x = new NorthWheel();
        for (int call = 1; call < 512; call++) {
            c.due("call " + call, x.head(call), call - 1);
        }
        c.due("the last call", x.head(0), 511);
    }
}
