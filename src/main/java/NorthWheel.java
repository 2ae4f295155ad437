/** A ship with three pointers, a steerer and what was looked at; the document's promises stand at the calls. */
public final class NorthWheel {
    public static final int NONE = -1, UNKNOWN = -2, OUTSIDE = -3, NOT = -4, FULL = -5;

    private static final int CIRCLE = 36000, HALF_CIRCLE = 18000, EIGHTH = 4500, EIGHTHS = 8;
    private static final int FARTHEST_PLACE = 89, FASTEST = 40, HARDEST_RUDDER = 35, GREATEST_TUNE = 99;
    private static final int POINTERS = 3, DEAD = 0, FREE = 1, SEEKING = 2, DAMPED = 3, CORRECTED = 4, IRON = 5;
    private static final int GREATEST_TURN = 999, GREATEST_NUMBER = 999, LONGEST_TRIAL = 300;
    private static final int LONGEST_RUN = 500, LAST_TICK = 5000;
    /** What is added to an answer that may be below 0, so that it is none of the refusals. */
    private static final int LIFT = 50000;

    private final Seas seas;
    private final Needles needles;
    private final Ship ship;
    private final Helm helm;
    private final Script script;
    private final Swings swings;
    private final Keeping keeping;
    private final Looks looks;
    private final TurnedAbout turnedAbout;
    private final Watched watched;

    public NorthWheel() {
        seas = new Seas();
        needles = new Needles();
        ship = new Ship(seas, needles);
        helm = new Helm();
        script = new Script();
        swings = new Swings();
        keeping = new Keeping(new Ship(seas, needles), new Helm());
        looks = new Looks();
        turnedAbout = new TurnedAbout();
        watched = new Watched();
    }

    // ---- ship and pointers

    public int set(int what, int v) {
        int was;
        if (what == 0 && isPlace(v)) {
            was = ship.place;
            ship.place = v;
        } else if (what == 1 && isSpeed(v)) {
            was = ship.speed;
            ship.speed = v;
        } else if (what == 2 && isWithin(v, 0, GREATEST_TUNE)) {
            was = ship.agile;
            ship.agile = v;
        } else if (what == 3 && isWithin(v, -HARDEST_RUDDER, HARDEST_RUDDER)) {
            was = ship.rudder;
            ship.rudder = v;
        } else {
            return OUTSIDE;
        }
        return was + 100;
    }

    public int head(int heading) {
        if (!isHeading(heading)) {
            return OUTSIDE;
        }
        int was = ship.heading;
        ship.heading = heading;
        return was;
    }

    public int sea(int yaw) {
        if (!isTurn(yaw)) {
            return OUTSIDE;
        }
        return seas.add(yaw);
    }

    public int calm() {
        int were = seas.size;
        seas.size = 0;
        return were;
    }

    public int kind(int pointer, int kind) {
        Pointer p = ship.pointerAt(pointer);
        if (p == null) {
            return UNKNOWN;
        }
        if (!isWithin(kind, DEAD, IRON)) {
            return OUTSIDE;
        }
        int was = p.kind;
        p.kind = kind;
        p.layAt(0);
        return was;
    }

    public int tune(int pointer, int what, int v) {
        Pointer p = ship.pointerAt(pointer);
        if (p == null) {
            return UNKNOWN;
        }
        if (!isWithin(what, 0, 2) || !isWithin(v, 0, GREATEST_TUNE)) {
            return OUTSIDE;
        }
        return p.retune(what, v);
    }

    public int off(int pointer, int off) {
        Pointer p = ship.pointerAt(pointer);
        if (p == null) {
            return UNKNOWN;
        }
        if (!isOff(off)) {
            return OUTSIDE;
        }
        p.layAt(off);
        return 1;
    }

    public int told(int pointer, int speed, int place) {
        Pointer p = ship.pointerAt(pointer);
        if (p == null) {
            return UNKNOWN;
        }
        if (!isSpeed(speed) || !isPlace(place)) {
            return OUTSIDE;
        }
        p.toldSpeed = speed;
        p.toldPlace = place;
        return 1;
    }

    public int iron(int k, int v) {
        if (!isEighth(k) || !isWithin(v, -2000, 2000)) {
            return OUTSIDE;
        }
        needles.deviations[k] = v;
        return 1;
    }

    public int shows(int pointer) {
        Pointer p = ship.pointerAt(pointer);
        return p == null ? UNKNOWN : p.shownAt(ship.heading, needles);
    }

    public int now(int pointer, int what) {
        Pointer p = ship.pointerAt(pointer);
        if (p == null) {
            return UNKNOWN;
        }
        if (!isWithin(what, 0, 1)) {
            return OUTSIDE;
        }
        return (what == 0 ? p.off : p.rate) + LIFT;
    }

    public int lean(int speed, int place, int heading) {
        if (!isSpeed(speed) || !isPlace(place) || !isHeading(heading)) {
            return OUTSIDE;
        }
        return leanOf(speed, place, heading) + 100000;
    }

    public int deviation(int heading) {
        if (!isHeading(heading)) {
            return OUTSIDE;
        }
        return needles.deviationAt(heading) + LIFT;
    }

    public int run(int n, boolean steered) {
        if (!isWithin(n, 1, LONGEST_RUN) || ship.ticks + n > LAST_TICK) {
            return OUTSIDE;
        }
        for (int i = 0; i < n; i++) {
            if (steered) {
                helm.steerShip(ship);
            }
            ship.tick();
        }
        return ship.heading;
    }

    // ---- steerers

    public int write(long bytes, int n) {
        if (!isWithin(n, 1, 8)) {
            return OUTSIDE;
        }
        return script.append(bytes, n);
    }

    public int erase() {
        int had = script.length;
        script.length = 0;
        return had;
    }

    public int fault() {
        return script.read();
    }

    public int steerer() {
        if (script.read() != NONE) {
            return NOT;
        }
        helm.become(script.numbers);
        script.length = 0;
        return script.lines;
    }

    public int steers(int what) {
        return isWithin(what, 0, Script.WORDS - 1) ? helm.numbers[what] : OUTSIDE;
    }

    public int course(int heading) {
        if (!isHeading(heading)) {
            return OUTSIDE;
        }
        int was = helm.course;
        helm.steerFor(heading);
        return was;
    }

    // ---- swings, turns, keeping

    public int swing(int pointer, int off, boolean damped, int what) {
        Pointer p = ship.pointerAt(pointer);
        if (p == null) {
            return UNKNOWN;
        }
        if (!isWithin(off, -9000, 9000) || off == 0 || !isWithin(what, 0, 2)) {
            return OUTSIDE;
        }
        swings.letSwing(p, holdOf(ship.place), off, damped);
        if (what == 0) {
            return swings.crosses;
        }
        if (what == 2) {
            return swings.rests;
        }
        return swings.crosses == NONE ? NONE : swings.beyond + LIFT;
    }

    public int noUse(int pointer) {
        Pointer p = ship.pointerAt(pointer);
        return p == null ? UNKNOWN : swings.firstPlaceWithoutRest(p);
    }

    public int turned(int pointer, int n, int k, int t) {
        Pointer p = ship.pointerAt(pointer);
        if (p == null) {
            return UNKNOWN;
        }
        if (!isQuickTurn(n, k, t)) {
            return OUTSIDE;
        }
        return swings.disturbed(p, p.pull, holdOf(ship.place), n, k, t);
    }

    public int bestPull(int pointer, int n, int k, int t) {
        Pointer p = ship.pointerAt(pointer);
        if (p == null) {
            return UNKNOWN;
        }
        if (!isQuickTurn(n, k, t)) {
            return OUTSIDE;
        }
        return swings.calmestPull(p, holdOf(ship.place), n, k, t);
    }

    public int kept(int n, int dead, int what) {
        if (!isTrial(n) || !isWithin(dead, 0, GREATEST_NUMBER) || !isWithin(what, 0, 1)) {
            return OUTSIDE;
        }
        keeping.keep(ship, helm, n, dead);
        return what == 0 ? keeping.worst : keeping.dear;
    }

    public int bestDead(int n, int allowance) {
        if (!isTrial(n) || !isWithin(allowance, 0, HALF_CIRCLE)) {
            return OUTSIDE;
        }
        int best = NONE;
        int leastDear = 0;
        for (int dead = 0; dead <= Keeping.GREATEST_DEAD; dead += Keeping.DEAD_STEP) {
            keeping.keep(ship, helm, n, dead);
            if (keeping.worst <= allowance && (best == NONE || keeping.dear < leastDear)) {
                best = dead;
                leastDear = keeping.dear;
            }
        }
        return best;
    }

    // ---- looks, needles, watched swings

    public int look(int a, int b, int c) {
        if (!isHeading(a) || !isHeading(b) || !isHeading(c)) {
            return OUTSIDE;
        }
        return looks.add(a, b, c);
    }

    public int wrong(int n, int what) {
        if (!isWithin(n, 0, 9000) || !isWithin(what, 0, 1)) {
            return OUTSIDE;
        }
        return what == 0 ? looks.wrongInEach(n) : looks.wrongInSome(n);
    }

    public int about(int heading, int showed) {
        if (!isHeading(heading) || !isHeading(showed)) {
            return OUTSIDE;
        }
        return turnedAbout.add(heading, showed);
    }

    public int needle(int k, int what) {
        if (!isEighth(k) || !isWithin(what, 0, 1)) {
            return OUTSIDE;
        }
        if (turnedAbout.sizes[k] == 0) {
            return NONE;
        }
        return (what == 0 ? turnedAbout.least[k] : turnedAbout.greatest[k]) + LIFT;
    }

    public int watch(int ticks, int off) {
        if (!isWithin(ticks, 0, Watched.LAST) || !isOff(off)) {
            return OUTSIDE;
        }
        return watched.add(ticks, off);
    }

    public int may(int n, int what) {
        if (!isWithin(n, 0, GREATEST_NUMBER) || !isWithin(what, 0, 2)) {
            return OUTSIDE;
        }
        watched.findThoseThatFit(n);
        if (what == 0) {
            return watched.fitting;
        }
        return what == 1 ? watched.first : watched.widestTick();
    }

    public int count(int what) {
        switch (what) {
            case 0: return ship.ticks;
            case 1: return ship.heading;
            case 2: return ship.rudder + 50;
            case 3: return seas.size;
            case 4: return script.length;
            case 5: return looks.size;
            case 6: return turnedAbout.size;
            case 7: return watched.size;
            default: return OUTSIDE;
        }
    }

    // ---- what the terms say of numbers

    private static boolean isWithin(int v, int least, int greatest) {
        return v >= least && v <= greatest;
    }

    private static boolean isHeading(int v) {
        return isWithin(v, 0, CIRCLE - 1);
    }

    private static boolean isOff(int v) {
        return isWithin(v, -HALF_CIRCLE, HALF_CIRCLE - 1);
    }

    private static boolean isPlace(int v) {
        return isWithin(v, -FARTHEST_PLACE, FARTHEST_PLACE);
    }

    private static boolean isSpeed(int v) {
        return isWithin(v, 0, FASTEST);
    }

    private static boolean isTurn(int v) {
        return isWithin(v, -GREATEST_TURN, GREATEST_TURN);
    }

    private static boolean isEighth(int k) {
        return isWithin(k, 0, EIGHTHS - 1);
    }

    private static boolean isTrial(int n) {
        return isWithin(n, 1, LONGEST_TRIAL);
    }

    private static boolean isQuickTurn(int n, int k, int t) {
        return isTrial(n) && isWithin(k, 0, n) && isTurn(t);
    }

    private static int asHeading(int v) {
        return Math.floorMod(v, CIRCLE);
    }

    private static int asOff(int v) {
        return Math.floorMod(v + HALF_CIRCLE, CIRCLE) - HALF_CIRCLE;
    }

    private static int apart(int heading, int other) {
        return Math.abs(asOff(heading - other));
    }

    private static int bounded(int v, int most) {
        return Math.max(-most, Math.min(most, v));
    }

    private static int holdOf(int place) {
        return 90 - Math.abs(place);
    }

    private static int leanOf(int speed, int place, int heading) {
        int hold = holdOf(place);
        int degrees = Math.min(heading, CIRCLE - heading) / 100;
        return hold < 1 ? 0 : speed * (90 - degrees) * 20 / hold;
    }

    /** The row of yaws, which comes round again and again. */
    private static final class Seas {
        private static final int MOST = 24;
        private final int[] yaws = new int[MOST];
        private int size;

        private int add(int yaw) {
            if (size >= MOST) {
                return FULL;
            }
            yaws[size] = yaw;
            size++;
            return size;
        }

        private int yawOf(int tick) {
            return size < 1 ? 0 : yaws[Math.floorMod(tick, size)];
        }
    }

    /** How far the ship's iron pulls all needles, told at eight headings. */
    private static final class Needles {
        private final int[] deviations = new int[EIGHTHS];

        private int deviationAt(int heading) {
            int k = Math.floorMod(heading / EIGHTH, EIGHTHS);
            int here = deviations[k];
            int next = deviations[(k + 1) % EIGHTHS];
            return here + (next - here) * (heading % EIGHTH) / EIGHTH;
        }
    }

    private static final class Pointer {
        private static final int FASTEST_RATE = 9999;
        private int kind = DEAD;
        private int pull = 10;
        private int damp = 20;
        private int kick;
        private int off;
        private int rate;
        private int toldSpeed;
        private int toldPlace;

        private void copyFrom(Pointer other) {
            kind = other.kind;
            pull = other.pull;
            damp = other.damp;
            kick = other.kick;
            off = other.off;
            rate = other.rate;
            toldSpeed = other.toldSpeed;
            toldPlace = other.toldPlace;
        }

        private int retune(int what, int v) {
            int was;
            if (what == 0) {
                was = pull;
                pull = v;
            } else if (what == 1) {
                was = damp;
                damp = v;
            } else {
                was = kick;
                kick = v;
            }
            return was;
        }

        private void layAt(int newOff) {
            off = newOff;
            rate = 0;
        }

        private int shownAt(int heading, Needles needles) {
            if (kind == DEAD) {
                return 0;
            }
            if (kind == IRON) {
                return asHeading(heading - needles.deviationAt(heading));
            }
            int bare = asHeading(heading - off);
            return kind == CORRECTED ? asHeading(bare + leanOf(toldSpeed, toldPlace, bare)) : bare;
        }

        private void tickIn(Ship ship, int turn) {
            if (kind == FREE) {
                off = asOff(off - 25 * ship.place / 90);
            } else if (kind == SEEKING) {
                sway(holdOf(ship.place), off, turn, false);
            } else if (kind == DAMPED || kind == CORRECTED) {
                int rest = leanOf(ship.speed, ship.place, ship.heading);
                sway(holdOf(ship.place), asOff(off - rest), turn, true);
            }
        }

        private void sway(int hold, int out, int turn, boolean damped) {
            rate -= pull * hold * out / 9000;
            if (damped) {
                rate -= rate * damp / 100;
                rate += turn * kick / 100;
            }
            rate = bounded(rate, FASTEST_RATE);
            off = asOff(off + rate);
        }
    }

    private static final class Ship {
        private final Seas seas;
        private final Needles needles;
        private final Pointer[] pointers;
        private int place;
        private int heading;
        private int speed;
        private int rudder;
        private int agile = 20;
        private int ticks;

        private Ship(Seas seas, Needles needles) {
            this.seas = seas;
            this.needles = needles;
            pointers = new Pointer[POINTERS];
            for (int i = 0; i < POINTERS; i++) {
                pointers[i] = new Pointer();
            }
        }

        private void copyFrom(Ship other) {
            place = other.place;
            heading = other.heading;
            speed = other.speed;
            rudder = other.rudder;
            agile = other.agile;
            ticks = other.ticks;
            for (int i = 0; i < POINTERS; i++) {
                pointers[i].copyFrom(other.pointers[i]);
            }
        }

        /** The others turn no ship: a trial that is steered by one need not move them. */
        private void stopAllBut(int number) {
            for (int i = 0; i < POINTERS; i++) {
                if (i != number) {
                    pointers[i].kind = DEAD;
                }
            }
        }

        /** The pointer of that number; null where there is none. */
        private Pointer pointerAt(int number) {
            return isWithin(number, 0, POINTERS - 1) ? pointers[number] : null;
        }

        private void tick() {
            int turn = rudder * agile + seas.yawOf(ticks);
            heading = asHeading(heading + turn);
            for (int i = 0; i < POINTERS; i++) {
                pointers[i].tickIn(this, turn);
            }
            ticks++;
        }
    }

    /** The steerer with its course, and what it saw when it looked last. */
    private static final class Helm {
        private static final int DEAD_LINE = 0, GAIN = 1, MEET = 2, MOST = 3, EVERY = 4, BY = 5;
        private final int[] numbers = new int[Script.WORDS];
        private int course;
        private boolean hasLooked;
        private int lastShown;

        private Helm() {
            System.arraycopy(Script.AT_FIRST, 0, numbers, 0, Script.WORDS);
        }

        private void copyFrom(Helm other) {
            System.arraycopy(other.numbers, 0, numbers, 0, Script.WORDS);
            course = other.course;
            hasLooked = other.hasLooked;
            lastShown = other.lastShown;
        }

        private void become(int[] newNumbers) {
            System.arraycopy(newNumbers, 0, numbers, 0, Script.WORDS);
            hasLooked = false;
        }

        private void steerFor(int heading) {
            course = heading;
            hasLooked = false;
        }

        private void steerShip(Ship ship) {
            int every = numbers[EVERY];
            Pointer pointer = ship.pointerAt(numbers[BY]);
            if (every < 1 || ship.ticks % every != 0 || pointer == null) {
                return;
            }
            int shown = pointer.shownAt(ship.heading, ship.needles);
            int out = asOff(course - shown);
            int goes = hasLooked ? asOff(shown - lastShown) : 0;
            hasLooked = true;
            lastShown = shown;
            ship.rudder = Math.abs(out) <= 10 * numbers[DEAD_LINE] ? 0 : answerTo(out, goes);
        }

        private int answerTo(int out, int goes) {
            return bounded(out * numbers[GAIN] / 10000 - goes * numbers[MEET] / 10000, numbers[MOST]);
        }
    }

    /** The text of a steerer, read to its first fault. */
    private static final class Script {
        private static final int LONGEST = 160, MOST_LINES = 8, MOST_DIGITS = 3;
        private static final int BLANK = 32, SEMICOLON = 59;
        /** The words are dead, gain, meet, most, every, by, in this order in each row. */
        private static final int WORDS = 6;
        private static final int[] LEAST = {0, 0, 0, 0, 1, 0};
        private static final int[] GREATEST = {999, 999, 999, 35, 99, 2};
        private static final int[] AT_FIRST = {0, 100, 0, 35, 1, 0};

        private final int[] bytes = new int[LONGEST];
        private int length;
        private final int[] numbers = new int[WORDS];
        private int lines;

        private int append(long more, int n) {
            if (length + n > LONGEST) {
                return FULL;
            }
            for (int i = 0; i < n; i++) {
                bytes[length + i] = (int) (more >> 8 * i & 255);
            }
            length += n;
            return length;
        }

        /** The place of the fault, or NONE; then numbers and lines are those of the text. */
        private int read() {
            System.arraycopy(AT_FIRST, 0, numbers, 0, WORDS);
            int at = 0;
            for (int line = 1; line <= MOST_LINES; line++) {
                int start = behindBlanks(at);
                int word = wordAt(start);
                if (word == NONE) {
                    return start;
                }
                int digits = behindBlanks(tokenEnd(start));
                int number = numberAt(digits);
                if (!isWithin(number, LEAST[word], GREATEST[word])) {
                    return digits;
                }
                numbers[word] = number;
                lines = line;
                at = behindBlanks(tokenEnd(digits));
                if (at >= length) {
                    return NONE;
                }
                if (bytes[at] != SEMICOLON || line == MOST_LINES) {
                    return at;
                }
                at++;
            }
            return at;
        }

        private int behindBlanks(int from) {
            int at = from;
            while (at < length && bytes[at] == BLANK) {
                at++;
            }
            return at;
        }

        private int tokenEnd(int start) {
            if (start >= length) {
                return length;
            }
            boolean letters = isLetter(bytes[start]);
            boolean digits = isDigit(bytes[start]);
            int at = start + 1;
            while (at < length && (letters && isLetter(bytes[at]) || digits && isDigit(bytes[at]))) {
                at++;
            }
            return at;
        }

        private int wordAt(int start) {
            int end = tokenEnd(start);
            for (int word = 0; word < WORDS; word++) {
                if (isSpelt(start, end, nameOf(word))) {
                    return word;
                }
            }
            return NONE;
        }

        private boolean isSpelt(int start, int end, String name) {
            if (end - start != name.length()) {
                return false;
            }
            for (int i = 0; i < name.length(); i++) {
                if (bytes[start + i] != name.charAt(i)) {
                    return false;
                }
            }
            return true;
        }

        /** The number that begins there; NONE (out of all bounds) if none does or it is too long. */
        private int numberAt(int start) {
            int end = tokenEnd(start);
            if (start >= length || !isDigit(bytes[start]) || end - start > MOST_DIGITS) {
                return NONE;
            }
            int number = 0;
            for (int at = start; at < end; at++) {
                number = number * 10 + bytes[at] - '0';
            }
            return number;
        }

        private static String nameOf(int word) {
            switch (word) {
                case 0: return "dead";
                case 1: return "gain";
                case 2: return "meet";
                case 3: return "most";
                case 4: return "every";
                default: return "by";
            }
        }

        private static boolean isLetter(int b) {
            return b >= 'a' && b <= 'z';
        }

        private static boolean isDigit(int b) {
            return b >= '0' && b <= '9';
        }
    }

    /** Swings of one pointer alone in a ship that lies still or only turns, so that its lean is 0. */
    private static final class Swings {
        private static final int LONGEST = 600, AT_REST = 100, FROM_TO_REST = 3000, GREATEST_PULL = 99;
        private final Pointer trial = new Pointer();
        private int crosses;
        private int beyond;
        private int rests;

        private void letSwing(Pointer like, int hold, int from, boolean damped) {
            trial.copyFrom(like);
            trial.layAt(from);
            crosses = NONE;
            beyond = 0;
            rests = NONE;
            noteRest(0);
            for (int tick = 1; tick <= LONGEST; tick++) {
                trial.sway(hold, trial.off, 0, damped);
                noteRest(tick);
                noteCrossing(tick, from);
            }
        }

        private void noteRest(int tick) {
            if (Math.abs(trial.off) > AT_REST) {
                rests = NONE;
            } else if (rests == NONE) {
                rests = tick;
            }
        }

        private void noteCrossing(int tick, int from) {
            if (crosses == NONE && (from > 0 ? trial.off <= 0 : trial.off >= 0)) {
                crosses = tick;
                beyond = trial.off;
            }
            if (crosses != NONE && Math.abs(trial.off) > Math.abs(beyond)) {
                beyond = trial.off;
            }
        }

        private int firstPlaceWithoutRest(Pointer like) {
            for (int place = 0; place <= FARTHEST_PLACE; place++) {
                letSwing(like, holdOf(place), FROM_TO_REST, true);
                if (rests == NONE) {
                    return place;
                }
            }
            return NONE;
        }

        private int disturbed(Pointer like, int pull, int hold, int n, int k, int t) {
            trial.copyFrom(like);
            trial.pull = pull;
            trial.layAt(0);
            int greatest = 0;
            for (int tick = 0; tick < n; tick++) {
                trial.sway(hold, trial.off, tick < k ? t : 0, true);
                greatest = Math.max(greatest, Math.abs(trial.off));
            }
            return greatest;
        }

        private int calmestPull(Pointer like, int hold, int n, int k, int t) {
            int best = 1;
            int least = disturbed(like, best, hold, n, k, t);
            for (int pull = 2; pull <= GREATEST_PULL; pull++) {
                int greatest = disturbed(like, pull, hold, n, k, t);
                if (greatest < least) {
                    least = greatest;
                    best = pull;
                }
            }
            return best;
        }
    }

    /** Whether a steerer keeps her, tried on copies, so that nothing is changed. */
    private static final class Keeping {
        private static final int GREATEST_DEAD = 990, DEAD_STEP = 10;
        private final Ship ship;
        private final Helm helm;
        private int worst;
        private int dear;

        private Keeping(Ship ship, Helm helm) {
            this.ship = ship;
            this.helm = helm;
        }

        private void keep(Ship from, Helm by, int n, int dead) {
            ship.copyFrom(from);
            helm.copyFrom(by);
            ship.stopAllBut(helm.numbers[Helm.BY]);
            helm.numbers[Helm.DEAD_LINE] = dead;
            worst = 0;
            dear = 0;
            for (int tick = 1; tick <= n; tick++) {
                helm.steerShip(ship);
                ship.tick();
                dear += Math.abs(ship.rudder);
                if (tick > n / 2) {
                    worst = Math.max(worst, apart(helm.course, ship.heading));
                }
            }
        }
    }

    private static final class Looks {
        private static final int MOST = 16;
        private final int[] shown = new int[MOST * POINTERS];
        private int size;

        private int add(int a, int b, int c) {
            if (size >= MOST) {
                return FULL;
            }
            int at = size * POINTERS;
            shown[at] = a;
            shown[at + 1] = b;
            shown[at + 2] = c;
            size++;
            return size;
        }

        private int wrongInEach(int n) {
            int bits = size == 0 ? 0 : (1 << POINTERS) - 1;
            for (int i = 0; i < size; i++) {
                bits &= wrongIn(i, n);
            }
            return bits;
        }

        private int wrongInSome(int n) {
            int bits = 0;
            for (int i = 0; i < size; i++) {
                bits |= wrongIn(i, n);
            }
            return bits;
        }

        private int wrongIn(int i, int n) {
            int at = i * POINTERS;
            boolean ab = apart(shown[at], shown[at + 1]) > n;
            boolean bc = apart(shown[at + 1], shown[at + 2]) > n;
            boolean ca = apart(shown[at + 2], shown[at]) > n;
            if (ab && ca && !bc) {
                return 1;
            }
            if (ab && bc && !ca) {
                return 2;
            }
            return bc && ca && !ab ? 4 : 0;
        }
    }

    /** What a needle showed in a ship turned about: of each eighth only what is asked for is kept. */
    private static final class TurnedAbout {
        private static final int MOST = 24;
        private final int[] sizes = new int[EIGHTHS];
        private final int[] least = new int[EIGHTHS];
        private final int[] greatest = new int[EIGHTHS];
        private int size;

        private int add(int heading, int showed) {
            if (size >= MOST) {
                return FULL;
            }
            int k = asHeading(heading + EIGHTH / 2) / EIGHTH;
            int error = asOff(heading - showed);
            least[k] = sizes[k] == 0 ? error : Math.min(least[k], error);
            greatest[k] = sizes[k] == 0 ? error : Math.max(greatest[k], error);
            sizes[k]++;
            size++;
            return size;
        }
    }

    /** Watched swings, and the pulls and damps that may be behind them. */
    private static final class Watched {
        private static final int MOST = 10, LAST = 60, GREATEST = 20, FROM = 3000;
        private final int[] ticks = new int[MOST];
        private final int[] offs = new int[MOST];
        private int size;
        private final Pointer trial = new Pointer();
        private final int[] path = new int[LAST + 1];
        private final int[] least = new int[LAST + 1];
        private final int[] greatest = new int[LAST + 1];
        private int fitting;
        private int first;

        private int add(int behind, int off) {
            if (size >= MOST) {
                return FULL;
            }
            ticks[size] = behind;
            offs[size] = off;
            size++;
            return size;
        }

        private void findThoseThatFit(int n) {
            fitting = 0;
            first = NONE;
            for (int pull = 0; pull <= GREATEST; pull++) {
                for (int damp = 0; damp <= GREATEST; damp++) {
                    follow(pull, damp);
                    if (fits(n)) {
                        widen();
                        first = fitting == 0 ? 100 * pull + damp : first;
                        fitting++;
                    }
                }
            }
        }

        private void follow(int pull, int damp) {
            trial.pull = pull;
            trial.damp = damp;
            trial.layAt(FROM);
            path[0] = FROM;
            for (int tick = 1; tick <= LAST; tick++) {
                trial.sway(holdOf(0), trial.off, 0, true);
                path[tick] = trial.off;
            }
        }

        private boolean fits(int n) {
            for (int i = 0; i < size; i++) {
                if (apart(path[ticks[i]], offs[i]) > n) {
                    return false;
                }
            }
            return true;
        }

        private void widen() {
            for (int tick = 0; tick <= LAST; tick++) {
                least[tick] = fitting == 0 ? path[tick] : Math.min(least[tick], path[tick]);
                greatest[tick] = fitting == 0 ? path[tick] : Math.max(greatest[tick], path[tick]);
            }
        }

        private int widestTick() {
            if (fitting == 0) {
                return NONE;
            }
            int widest = 0;
            for (int tick = 1; tick <= LAST; tick++) {
                if (greatest[tick] - least[tick] > greatest[widest] - least[widest]) {
                    widest = tick;
                }
            }
            return widest;
        }
    }
}
