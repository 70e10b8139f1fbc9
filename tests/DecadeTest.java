/** Promises 38, 39: decade, drawn. The draws are told here once more. */
public final class DecadeTest {
    private static long s;

    public static void main(String[] args) {
        wrong();
        oneDay();
        manyDays();
        sunday();
        snapsAheadOfWear();
        snapped();
        wound();
        lastDay();
        onPaper();
        kept();
        Due.finish();
    }

    private static int draw(int m) {
        s = (s * 1103 + 12345) % 1000003;
        return (int) (s % m);
    }

    /** The first seed from this one on whose first two draws are within these. */
    private static int seed(int from, int leastTurns, int mostTurns, int leastSnap, int mostSnap) {
        for (int seed = from; ; seed++) {
            s = seed;
            int turns = draw(13);
            int snap = draw(100);
            if (turns >= leastTurns && turns <= mostTurns && snap >= leastSnap && snap <= mostSnap) return seed;
        }
    }

    private static void drawnIs(WoundTown x, String what, int life, int snapped, int day, int ran) {
        Due.due(what + ": drawn(0)", x.drawn(0), life);
        Due.due(what + ": drawn(1)", x.drawn(1), snapped);
        Due.due(what + ": drawn(2)", x.drawn(2), day);
        Due.due(what + ": drawn(3)", x.drawn(3), ran);
    }

    private static void wrong() {
        WoundTown x = new WoundTown();
        Due.refused(x, "decade(-1, 1)", x.decade(-1, 1), -1);
        Due.refused(x, "decade(1000001, 1)", x.decade(1000001, 1), -1);
        Due.refused(x, "decade(0, 0)", x.decade(0, 0), -1);
        Due.refused(x, "decade(0, 61)", x.decade(0, 61), -1);
        Due.due("drawn(0) ahead of any", x.drawn(0), -1);
        Due.answered(x, "decade(1000000, 60)", x.decade(1000000, 60), 0);
        Due.answered(x, "decade(0, 1)", x.decade(0, 1), 0);
        drawnIs(x, "seed 0: turns 8", 1000 - 64, 0, 1, 1);
        Due.due("drawn(4)", x.drawn(4), -1);
        Due.due("drawn(-1)", x.drawn(-1), -1);
    }

    private static void oneDay() {
        for (int turns = 0; turns <= 12; turns++) {
            WoundTown x = new WoundTown();
            x.person(0, 0);
            x.work(0, 14, 23, 1, -1);
            x.work(0, 600, 23, 1, -1);
            int seed = seed(1, turns, turns, 30, 99);
            Due.answered(x, "decade by " + turns, x.decade(seed, 1), turns == 0 ? 0 : turns < 10 ? 1 : 2);
            drawnIs(x, "decade by " + turns, 1000 - turns * turns, 0, 1, 1);
            Due.due("drawn(4)", x.drawn(4), turns > 0 ? 14 : 0);
            Due.due("drawn(5)", x.drawn(5), x.ends(turns, 1, 1));
            Due.due("drawn(6)", x.drawn(6), -1);
        }
    }

    /** Day by day as told, kept by hand for a town of one person without works or law. */
    private static void manyDays() {
        for (int seed = 100; seed < 140; seed++) {
            WoundTown x = new WoundTown();
            x.person(0, 0);
            s = seed;
            int life = 1000;
            int ran = 0;
            boolean snapped = false;
            for (int day = 0; day < 60; day++) {
                if (snapped) continue;
                int turns = draw(13);
                if (day % 7 == 6) turns = Math.min(turns, 7);
                if (draw(100) < 10 * (turns - 9)) {
                    snapped = true;
                    continue;
                }
                life = Math.max(0, life - turns * turns);
                if (life == 0) {
                    snapped = true;
                } else {
                    ran++;
                }
            }
            x.decade(seed, 60);
            drawnIs(x, "decade(" + seed + ", 60)", life, snapped ? 1 : 0, 60, ran);
        }
    }

    private static void sunday() {
        WoundTown x = new WoundTown();
        x.terms(0, 6);
        x.terms(1, 2);
        int seed = seed(1, 10, 12, 0, 9);
        Due.answered(x, "a draw beyond SUNDAY", x.decade(seed, 1), 0);
        drawnIs(x, "SUNDAY at most", 996, 0, 7, 1);
        seed = seed(1, 1, 1, 0, 99);
        x.decade(seed, 1);
        drawnIs(x, "below SUNDAY", 999, 0, 7, 1);
    }

    private static void snapsAheadOfWear() {
        WoundTown x = new WoundTown();
        int seed = seed(1, 12, 12, 0, 29);
        x.decade(seed, 1);
        drawnIs(x, "snapped by the draw", 1000, 1, 1, 0);
        Due.force(x, "snaps 50 if life = 1000 and turns = 5;wears 3");
        x.decade(seed(1, 5, 5, 49, 49), 1);
        drawnIs(x, "49 is below 50", 1000, 1, 1, 0);
        x.decade(seed(1, 5, 5, 50, 50), 1);
        drawnIs(x, "50 is not below 50", 997, 0, 1, 1);
    }

    private static void snapped() {
        WoundTown x = new WoundTown();
        x.person(5, 0);
        x.work(0, 100, 23, 1, -1);
        Due.force(x, "wears 999 + 999;snaps 0");
        x.mend(1);
        x.key(0, 1);
        x.decade(3, 60);
        drawnIs(x, "1001 less 999, then it snaps", 0, 1, 60, 1);
        Due.force(x, "snaps 100");
        Due.answered(x, "snapped: nothing is done", x.decade(3, 60), 0);
        drawnIs(x, "snapped at once", 1001, 1, 60, 0);
        Due.due("drawn(4)", x.drawn(4), 0);
    }

    private static void wound() {
        WoundTown x = new WoundTown();
        x.person(5, 0);
        x.work(0, 14, 23, 1, -1);
        x.wind(1);
        Due.answered(x, "the first day just runs", x.decade(seed(1, 5, 5, 0, 99), 1), 1);
        drawnIs(x, "the first day just runs", 999, 0, 1, 1);
        x.decade(seed(1, 5, 5, 0, 99), 2);
        drawnIs(x, "the first draws are for the second day", 974, 0, 2, 2);
    }

    private static void lastDay() {
        WoundTown x = new WoundTown();
        x.terms(0, 997);
        x.decade(seed(1, 1, 1, 0, 99), 1);
        drawnIs(x, "997", 999, 0, 998, 1);
        x.decade(seed(1, 1, 1, 0, 99), 60);
        Due.due("it ends on day 999", x.drawn(2), 999);
        Due.due("it ran twice", x.drawn(3), 2);
        x.terms(0, 999);
        Due.answered(x, "on day 999", x.decade(1, 60), 0);
        drawnIs(x, "on day 999", 1000, 0, 999, 0);
        x.wind(1);
        x.decade(1, 1);
        drawnIs(x, "wound on day 999", 999, 0, 999, 0);
        Due.force(x, "snaps 100");
        x.undo();
        x.terms(0, 990);
        x.decade(1, 60);
        drawnIs(x, "snapped till day 999", 1000, 1, 999, 0);
    }

    private static void onPaper() {
        WoundTown x = new WoundTown();
        x.person(5, 0);
        x.work(0, 600, 23, 1, -1);
        x.key(0, 2);
        x.decade(7, 60);
        Due.due("life", x.count(12), 1000);
        Due.due("day", x.count(15), 0);
        Due.due("done", x.at(0, 5), 0);
        Due.due("oil", x.of(0, 0), 5);
        Due.due("little", x.of(0, 2), 2);
        Due.due("count(4)", x.count(4), 1);
        // On days that run oil and little go: by the law the speed is the oil, the wear none.
        Due.force(x, "speeds oil + little;runs 0;wears 0;snaps 0");
        x.decade(seed(1, 1, 12, 0, 99), 1);
        Due.due("one day", x.drawn(4), 24 * 7);
        x.wind(1);
        x.decade(seed(1, 1, 12, 0, 99), 2);
        Due.due("two days", x.drawn(4), 24 * (7 + 5));
    }

    private static void kept() {
        WoundTown x = new WoundTown();
        x.person(5, 0);
        x.work(0, 30, 23, 1, -1);
        x.image(0);
        x.work(0, 30, 23, 1, -1);
        x.decade(seed(1, 5, 5, 0, 99), 1);
        x.decade(-1, 1);
        drawnIs(x, "one that is refused is not the latest", 975, 0, 1, 1);
        x.back(0);
        Due.due("images do not keep it: drawn(5)", x.drawn(5), 30);
        Due.due("drawn(6)", x.drawn(6), -1);
        x.decade(seed(1, 1, 1, 0, 99), 1);
        Due.due("the latest: drawn(0)", x.drawn(0), 999);
        Due.due("the latest: drawn(5)", x.drawn(5), -1);
        x.work(0, 30, 23, 1, -1);
        Due.due("works that came later", x.drawn(5), -1);
        for (int w = 2; w < 10; w++) x.work(0, 1, 23, 1, -1);
        x.decade(seed(1, 8, 8, 0, 99), 1);
        Due.due("the last work", x.drawn(13), 1);
        Due.due("behind the last", x.drawn(14), -1);
    }
}
