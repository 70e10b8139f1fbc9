/** Promises 19 to 23: wind, key, run, mend, undo. */
public final class DoingsTest {
    public static void main(String[] args) {
        wind();
        snap();
        sunday();
        key();
        run();
        runByHours();
        runWithoutPower();
        lastDay();
        mend();
        undo();
        noUndoBehind();
        Due.finish();
    }

    private static void wind() {
        WoundTown x = new WoundTown();
        Due.refused(x, "wind(-1)", x.wind(-1), -1);
        Due.refused(x, "wind(13)", x.wind(13), -1);
        Due.answered(x, "wind(12)", x.wind(12), 856);
        Due.due("turns", x.count(14), 12);
        Due.refused(x, "wind(1) once more", x.wind(1), -3);
        Due.refused(x, "-1 ahead of -3", x.wind(13), -1);
        x.run();
        Due.answered(x, "wind(0)", x.wind(0), 856);
        Due.due("turns", x.count(14), 0);
        Due.refused(x, "wound by 0 is wound", x.wind(1), -3);
        WoundTown y = new WoundTown();
        Due.force(y, "wears life / 100 + turns");
        Due.answered(y, "wear is asked of the life ahead", y.wind(3), 987);
        Due.due("then of what is left", y.asks(3, 0), 12);
    }

    private static void snap() {
        WoundTown x = new WoundTown();
        Due.force(x, "wears 500");
        x.wind(1);
        x.run();
        Due.answered(x, "wind(1) to 0", x.wind(1), 0);
        Due.due("snapped", x.count(13), 1);
        Due.due("turns", x.count(14), -1);
        Due.due("life", x.count(12), 0);
        Due.refused(x, "wind(0) of a snapped spring", x.wind(0), -3);
        Due.refused(x, "run()", x.run(), -3);
        Due.answered(x, "undo()", x.undo(), 0);
        Due.due("snapped", x.count(13), 0);
        Due.due("life", x.count(12), 500);
        Due.force(x, "wears 999");
        Due.answered(x, "wind(1) below 0", x.wind(1), 0);
        Due.due("snapped", x.count(13), 1);
        Due.answered(x, "mend(3)", x.mend(3), 3);
        Due.due("snapped", x.count(13), 0);
        x.force(-1);
        Due.answered(x, "wind(1)", x.wind(1), 2);
    }

    private static void sunday() {
        WoundTown x = new WoundTown();
        int[] sundays = {6, 13, 993};
        for (int day : sundays) {
            x.terms(0, day);
            x.terms(1, 7);
            Due.refused(x, "wind(8) on day " + day, x.wind(8), -3);
            x.terms(1, 3);
            Due.refused(x, "wind(4) on day " + day, x.wind(4), -3);
            Due.due("wind(3) on day " + day, x.wind(3) > 0 ? 1 : 0, 1);
            x.undo();
        }
        int[] others = {0, 5, 7, 12, 14};
        for (int day : others) {
            x.terms(0, day);
            Due.answered(x, "wind(12) on day " + day, x.wind(12), 856);
            x.undo();
        }
    }

    private static void key() {
        WoundTown x = new WoundTown();
        Due.refused(x, "key(0, 0): -1 ahead of -2", x.key(0, 0), -1);
        Due.refused(x, "key(0, 10)", x.key(0, 10), -1);
        Due.refused(x, "key(0, 1)", x.key(0, 1), -2);
        x.person(0, 0);
        Due.refused(x, "key(-1, 1)", x.key(-1, 1), -2);
        Due.refused(x, "key(1, 1)", x.key(1, 1), -2);
        Due.refused(x, "key(0, -1)", x.key(0, -1), -1);
        Due.answered(x, "key(0, 9)", x.key(0, 9), 9);
        Due.refused(x, "key(0, 1): 10 altogether", x.key(0, 1), -3);
        Due.due("little", x.of(0, 2), 9);
        x.undo();
        Due.answered(x, "key(0, 4)", x.key(0, 4), 4);
        Due.refused(x, "key(0, 6): 10 altogether", x.key(0, 6), -3);
        Due.answered(x, "key(0, 5)", x.key(0, 5), 9);
        x.wind(1);
        x.undo();
        x.undo();
        x.wind(1);
        Due.answered(x, "key(0, 1) of a wound town", x.key(0, 1), 5);
    }

    private static void run() {
        WoundTown x = new WoundTown();
        Due.refused(x, "run() ahead of wind()", x.run(), -3);
        x.person(2, 0);
        x.person(0, 0);
        x.work(0, 30, 0, 1, -1);
        x.work(1, 400, 0, 1, -1);
        x.key(0, 1);
        x.terms(0, 12);
        x.wind(3);
        Due.answered(x, "run()", x.run(), 1);
        Due.due("day", x.count(15), 13);
        Due.due("turns", x.count(14), -1);
        Due.due("oil", x.of(0, 0), 1);
        Due.due("oil stays 0", x.of(1, 0), 0);
        Due.due("little", x.of(0, 2), 0);
        Due.due("little stays 0", x.of(1, 2), 0);
        Due.due("done all", x.at(0, 5), 30);
        Due.due("30 24 18 12 6", x.at(1, 5), 90);
        Due.due("life", x.count(12), 991);
        x.wind(3);
        Due.answered(x, "run() that ends none", x.run(), 0);
        Due.due("more is done", x.at(1, 5), 180);
    }

    /** Who waits, who goes on, what is lost. */
    private static void runByHours() {
        WoundTown x = new WoundTown();
        x.person(0, 0);
        x.person(0, 0);
        x.work(0, 70, 23, 1, -1);
        x.work(1, 10, 23, 1, 0);
        x.work(1, 45, 23, 1, -1);
        x.work(0, 5, 23, 1, 1);
        Due.force(x, "runs 0;speeds 40");
        // Person 0: 40, 30 (10 are lost), then waits for work 1. Person 1: 40 of work 2, 5 (35 are lost), then work 1.
        int[] ends = {1, 2, 1, 3};
        for (int w = 0; w < 4; w++) Due.due("ends(1, " + w + ", 0)", x.ends(1, w, 0), ends[w]);
        x.wind(1);
        Due.answered(x, "run()", x.run(), 4);
        for (int w = 0; w < 4; w++) Due.due("done " + w, x.at(w, 5), x.at(w, 1));
        x.work(1, 40, 23, 1, 0);
        Due.due("what was done on a day before is ahead", x.ends(1, 4, 0), 0);
    }

    /** Who goes as a law tells goes without POWER, too, on paper and when the day is run. */
    private static void runWithoutPower() {
        WoundTown x = new WoundTown();
        x.person(0, 0);
        x.work(0, 30, 9, 4, -1);
        x.work(0, 600, 23, 5, 0);
        Due.force(x, "runs 1000; speeds 10");
        Due.due("least(1)", x.least(1), 0);
        Due.due("ends(0, 0, 0)", x.ends(0, 0, 0), 2);
        Due.due("orderly(0, 0, -1)", x.orderly(0, 0, -1), 4);
        Due.due("little(0, 0)", x.little(0, 0), 0);
        Due.due("day(0, 1)", x.day(0, 1), 4);
        x.sight(1, 3, 10);
        Due.due("fits()", x.fits(), 8191);
        Due.due("decade(5, 1)", x.decade(5, 1), 1);
        Due.due("drawn(5)", x.drawn(5), 210);
        x.wind(0);
        Due.answered(x, "run()", x.run(), 1);
        Due.due("done", x.at(1, 5), 210);
    }

    private static void lastDay() {
        WoundTown x = new WoundTown();
        x.terms(0, 998);
        x.wind(0);
        Due.answered(x, "run() on day 998", x.run(), 0);
        Due.due("day", x.count(15), 999);
        x.wind(0);
        Due.refused(x, "run() on day 999", x.run(), -3);
        Due.due("still wound", x.count(14), 0);
    }

    private static void mend() {
        WoundTown x = new WoundTown();
        Due.refused(x, "mend(0)", x.mend(0), -1);
        Due.refused(x, "mend(10000)", x.mend(10000), -1);
        Due.refused(x, "mend(-5)", x.mend(-5), -1);
        Due.answered(x, "mend(1)", x.mend(1), 1001);
        Due.answered(x, "mend(9999): at most", x.mend(9999), 9999);
        Due.answered(x, "mend(1): at most", x.mend(1), 9999);
        Due.due("count(4)", x.count(4), 3);
        x.wind(2);
        Due.refused(x, "mend(1) of a wound town", x.mend(1), -3);
        Due.refused(x, "-1 ahead of -3", x.mend(0), -1);
        x.run();
        Due.answered(x, "mend(2)", x.mend(2), 9997);
    }

    private static void undo() {
        WoundTown x = new WoundTown();
        Due.refused(x, "undo() of none", x.undo(), -3);
        x.person(5, 0);
        x.work(0, 600, 0, 1, -1);
        x.terms(0, 41);
        x.mend(7);
        x.wind(5);
        x.key(0, 2);
        x.run();
        Due.due("count(4)", x.count(4), 4);
        Due.answered(x, "undo()", x.undo(), 2);
        Due.due("oil", x.of(0, 0), 5);
        Due.due("little", x.of(0, 2), 2);
        Due.due("done", x.at(0, 5), 0);
        Due.due("day", x.count(15), 41);
        Due.due("turns", x.count(14), 5);
        Due.answered(x, "undo()", x.undo(), 1);
        Due.due("little", x.of(0, 2), 0);
        Due.answered(x, "undo()", x.undo(), 0);
        Due.due("turns", x.count(14), -1);
        Due.due("life", x.count(12), 1007);
        Due.answered(x, "undo()", x.undo(), 3);
        Due.due("life", x.count(12), 1000);
        Due.refused(x, "undo()", x.undo(), -3);
        for (int i = 1; i <= 17; i++) x.mend(i);
        Due.due("16 are kept", x.count(4), 16);
        for (int i = 17; i >= 2; i--) Due.answered(x, "undo()", x.undo(), 3);
        Due.due("life", x.count(12), 1001);
        Due.refused(x, "undo()", x.undo(), -3);
        x.mend(1);
        x.mend(2);
        x.undo();
        x.mend(4);
        Due.due("life", x.count(12), 1006);
        x.wind(1);
        x.key(0, 1);
        x.run();
        x.wind(1);
        x.run();
        x.undo();
        Due.due("what was done on the first of two days", x.at(0, 5), 15 + 9 + 22 * 5);
        x.undo();
        x.undo();
        Due.due("what the first of two days did stands undone", x.at(0, 5), 0);
        x.undo();
        x.undo();
        Due.force(x, "wears 999");
        x.wind(1);
        x.run();
        x.wind(1);
        Due.answered(x, "a spring that had snapped", x.mend(9), 9);
        x.undo();
        Due.due("it has snapped again", x.count(13), 1);
        x.undo();
        x.undo();
        x.undo();
        Due.due("it has not", x.count(13), 0);
        x.undo();
        x.undo();
        Due.due("life", x.count(12), 1001);
    }

    private static void undoneIs(WoundTown x, String behind, int kept) {
        Due.due("count(4) behind " + behind, x.count(4), kept);
        x.mend(1);
    }

    private static void noUndoBehind() {
        WoundTown x = new WoundTown();
        x.mend(1);
        x.person(0, 0);
        undoneIs(x, "person()", 0);
        x.person(10, 0);
        undoneIs(x, "person() that was refused", 1);
        x.oil(0, 1);
        undoneIs(x, "oil()", 0);
        x.oil(0, 10);
        x.oil(1, 1);
        undoneIs(x, "oil() that was refused", 1);
        x.work(0, 1, 1, 1, -1);
        undoneIs(x, "work()", 0);
        x.work(0, 0, 1, 1, -1);
        undoneIs(x, "work() that was refused", 1);
        x.terms(2, 1);
        undoneIs(x, "terms(2)", 0);
        x.terms(1, 1);
        undoneIs(x, "terms(1)", 0);
        x.terms(0, 0);
        undoneIs(x, "terms(0)", 0);
        x.terms(0, -1);
        undoneIs(x, "terms() that was refused", 1);
        x.row();
        undoneIs(x, "row() that was refused", 2);
        Due.bytes(x, new byte[] {9});
        x.row();
        undoneIs(x, "row() of dust", 0);
        x.road(0, 1, 1);
        x.sight(0, 0, 0);
        x.forget();
        Due.law(x, "bars");
        x.force(0);
        x.image(0);
        x.decade(1, 1);
        undoneIs(x, "all others", 1);
        x.back(1);
        undoneIs(x, "back() that was refused", 2);
        x.back(0);
        undoneIs(x, "back()", 0);
    }
}
