import java.util.ArrayList;
import java.util.List;

/** Wheels in some states, and all that can be learnt of one, so that two can be compared. */
final class Wheels {
    private Wheels() {
    }

    /** All kinds of numbers told, no row full, a text that ends too soon, a steerer that has looked. */
    static NorthWheel underWay() {
        NorthWheel x = new NorthWheel();
        tellShip(x);
        Checks.write(x, "gain 150;meet 200;every 2;by 1;dead 7;most 25");
        x.steerer();
        x.course(3000);
        x.run(7, true);
        Checks.write(x, "gain 45;most 7;meet");
        x.sea(150);
        x.sea(-90);
        x.look(100, 200, 900);
        x.look(35950, 30, 31000);
        x.about(100, 35000);
        x.about(9000, 9500);
        x.about(9100, 9000);
        x.watch(3, 2400);
        x.watch(9, 300);
        return x;
    }

    /** The same, with each row as full as it may be. */
    static NorthWheel full() {
        NorthWheel x = underWay();
        for (int k = x.count(3); k < 24; k++) {
            x.sea(40 * k - 500);
        }
        x.erase();
        Checks.write(x, "gain 45;most 7;meet 8;" + " ".repeat(134) + "by 2");
        for (int k = x.count(5); k < 16; k++) {
            x.look(10 * k, 10 * k, 5000);
        }
        for (int k = x.count(6); k < 24; k++) {
            x.about(1500 * k, 1450 * k);
        }
        for (int k = x.count(7); k < 10; k++) {
            x.watch(k, 150 * k);
        }
        return x;
    }

    private static void tellShip(NorthWheel x) {
        x.kind(0, 3);
        x.kind(1, 4);
        x.kind(2, 1);
        x.off(2, -700);
        x.tune(0, 0, 22);
        x.tune(1, 1, 9);
        x.tune(1, 2, 20);
        x.set(0, 50);
        x.set(1, 15);
        x.set(2, 30);
        x.told(0, 9, 21);
        x.told(1, 12, 48);
        x.head(35500);
        x.iron(0, 300);
        x.iron(5, -1100);
    }

    /** The answers of some 160 calls; the object is spent then. */
    static List<Integer> allThatItTells(NorthWheel x) {
        List<Integer> told = new ArrayList<>();
        askAll(x, told);
        letItGoOn(x, told);
        askByTelling(x, told);
        return told;
    }

    private static void askAll(NorthWheel x, List<Integer> told) {
        told.add(x.fault());
        for (int k = 0; k < 8; k++) {
            told.add(x.count(k));
            told.add(x.steers(k));
            told.add(x.deviation(4500 * k));
            told.add(x.needle(k, 0));
            told.add(x.needle(k, 1));
        }
        for (int k = 0; k < 3; k++) {
            told.add(x.shows(k));
            told.add(x.now(k, 0));
            told.add(x.now(k, 1));
            told.add(x.swing(k, 3000, true, 1));
            told.add(x.turned(k, 9, 4, 400));
            told.add(x.may(700, k));
        }
        told.add(x.wrong(100, 0));
        told.add(x.wrong(100, 1));
        told.add(x.kept(7, 12, 0));
        told.add(x.kept(7, 12, 1));
    }

    /** Course, yaws and what the steerer saw last are seen from how she goes on. */
    private static void letItGoOn(NorthWheel x, List<Integer> told) {
        for (int k = 0; k < 24; k++) {
            told.add(x.run(1, true));
        }
        told.add(x.count(2));
        for (int k = 0; k < 3; k++) {
            told.add(x.now(k, 0));
            told.add(x.now(k, 1));
        }
    }

    /** What it was is answered when it is told anew. */
    private static void askByTelling(NorthWheel x, List<Integer> told) {
        for (int k = 0; k < 4; k++) {
            told.add(x.set(k, 0));
        }
        told.add(x.head(0));
        told.add(x.course(0));
        for (int p = 0; p < 3; p++) {
            told.add(x.tune(p, 0, 0));
            told.add(x.tune(p, 1, 0));
            told.add(x.tune(p, 2, 0));
            told.add(x.kind(p, 4));
            told.add(x.shows(p));
        }
        told.add(Checks.write(x, " 9"));
        told.add(x.steerer());
        for (int k = 0; k < 6; k++) {
            told.add(x.steers(k));
        }
        told.add(x.erase());
        told.add(x.calm());
    }
}
