/** Promises 1 to 8: a new object, road, person, oil, of, work, at, terms. */
public final class TownTest {
    public static void main(String[] args) {
        newObject();
        roads();
        people();
        oil();
        of();
        works();
        at();
        terms();
        Due.finish();
    }

    private static void newObject() {
        WoundTown x = new WoundTown();
        int[] counts = {0, 0, 0, 0, 0, 0, 0, 0, 0, 0, 0, -1, 1000, 0, -1, 0, 7, 0};
        for (int what = 0; what < counts.length; what++) {
            Due.due("new: count(" + what + ")", x.count(what), counts[what]);
        }
        Due.due("new: status()", x.status(), 0);
        Due.due("new: fault()", x.fault(), -1);
        Due.due("new: stopped()", x.stopped(), -1);
        Due.due("new: dust()", x.dust(), 0);
        Due.due("new: drawn(0)", x.drawn(0), -1);
        Due.due("new: of(0, 0)", x.of(0, 0), -1);
        Due.due("new: at(0, 0)", x.at(0, 0), -1);
        Due.due("new: fits()", x.fits(), 8191);
        Due.due("new: guards(0)", x.guards(0), 0);
    }

    private static void roads() {
        WoundTown x = new WoundTown();
        Due.answered(x, "road(0, 7, 99)", x.road(0, 7, 99), 0);
        Due.answered(x, "road(7, 0, 1)", x.road(7, 0, 1), 99);
        Due.answered(x, "road(0, 7, 0)", x.road(0, 7, 0), 1);
        Due.answered(x, "road(7, 0, 5)", x.road(7, 0, 5), 0);
        Due.answered(x, "road(0, 7, 5)", x.road(0, 7, 5), 5);
        Due.answered(x, "road(1, 6, 7): another pair", x.road(1, 6, 7), 0);
        Due.refused(x, "road(3, 3, 1)", x.road(3, 3, 1), -1);
        Due.refused(x, "road(-1, 3, 1)", x.road(-1, 3, 1), -1);
        Due.refused(x, "road(3, -1, 1)", x.road(3, -1, 1), -1);
        Due.refused(x, "road(8, 3, 1)", x.road(8, 3, 1), -1);
        Due.refused(x, "road(3, 8, 1)", x.road(3, 8, 1), -1);
        Due.refused(x, "road(3, 4, -1)", x.road(3, 4, -1), -1);
        Due.refused(x, "road(3, 4, 100)", x.road(3, 4, 100), -1);
        Due.answered(x, "road(3, 4, 2): was none", x.road(3, 4, 2), 0);
        Due.due("count(6)", x.count(6), 7);
    }

    private static void people() {
        WoundTown x = new WoundTown();
        Due.refused(x, "person(-1, 0)", x.person(-1, 0), -1);
        Due.refused(x, "person(10, 0)", x.person(10, 0), -1);
        Due.refused(x, "person(0, -1)", x.person(0, -1), -1);
        Due.refused(x, "person(0, 8)", x.person(0, 8), -1);
        for (int p = 0; p < 6; p++) {
            Due.answered(x, "person " + p, x.person(9 - p, 7 - p), p);
        }
        Due.refused(x, "the seventh", x.person(0, 0), -5);
        Due.refused(x, "-1 ahead of -5", x.person(10, 0), -1);
        Due.due("count(0)", x.count(0), 6);
        Due.due("count(9)", x.count(9), 1);
        Due.due("of(5, 0)", x.of(5, 0), 4);
        Due.due("of(5, 1)", x.of(5, 1), 2);
    }

    private static void oil() {
        WoundTown x = new WoundTown();
        Due.refused(x, "oil(0, 10): -1 ahead of -2", x.oil(0, 10), -1);
        Due.refused(x, "oil(0, 0)", x.oil(0, 0), -2);
        x.person(3, 0);
        Due.answered(x, "oil(0, 9)", x.oil(0, 9), 3);
        Due.answered(x, "oil(0, 0)", x.oil(0, 0), 9);
        Due.refused(x, "oil(0, -1)", x.oil(0, -1), -1);
        Due.refused(x, "oil(-1, 0)", x.oil(-1, 0), -2);
        Due.refused(x, "oil(1, 0)", x.oil(1, 0), -2);
        Due.refused(x, "oil(6, 0)", x.oil(6, 0), -2);
        Due.due("of(0, 0)", x.of(0, 0), 0);
        Due.due("count(7)", x.count(7), 4);
    }

    private static void of() {
        WoundTown x = new WoundTown();
        x.person(4, 5);
        x.person(0, 0);
        x.key(0, 3);
        x.work(0, 60, 1, 1, -1);
        x.work(0, 600, 1, 1, -1);
        x.work(1, 600, 1, 1, -1);
        Due.due("of(0, 0)", x.of(0, 0), 4);
        Due.due("of(0, 1)", x.of(0, 1), 5);
        Due.due("of(0, 2)", x.of(0, 2), 3);
        Due.due("of(0, 3)", x.of(0, 3), 2);
        x.wind(1);
        x.run();
        Due.due("of(0, 3) when one is done", x.of(0, 3), 1);
        Due.due("of(1, 3)", x.of(1, 3), 1);
        Due.due("of(0, 4)", x.of(0, 4), -1);
        Due.due("of(0, -1)", x.of(0, -1), -1);
        Due.due("of(2, 0)", x.of(2, 0), -1);
        Due.due("of(-1, 0)", x.of(-1, 0), -1);
        Due.due("of is not among what status() tells", x.status(), 0);
    }

    private static void works() {
        WoundTown x = new WoundTown();
        Due.refused(x, "work of nobody", x.work(0, 1, 0, 1, -1), -2);
        x.person(0, 0);
        Due.refused(x, "no minutes", x.work(0, 0, 0, 1, -1), -1);
        Due.refused(x, "601 minutes", x.work(0, 601, 0, 1, -1), -1);
        Due.refused(x, "due -1", x.work(0, 1, -1, 1, -1), -1);
        Due.refused(x, "due 24", x.work(0, 1, 24, 1, -1), -1);
        Due.refused(x, "worth 0", x.work(0, 1, 0, 0, -1), -1);
        Due.refused(x, "worth 100", x.work(0, 1, 0, 100, -1), -1);
        Due.refused(x, "-1 ahead of -2", x.work(9, 0, 0, 1, -1), -1);
        Due.refused(x, "person 1", x.work(1, 1, 0, 1, -1), -2);
        Due.refused(x, "person -1", x.work(-1, 1, 0, 1, -1), -2);
        Due.refused(x, "ahead 0: itself", x.work(0, 1, 0, 1, 0), -2);
        Due.refused(x, "ahead -2", x.work(0, 1, 0, 1, -2), -2);
        Due.answered(x, "the first", x.work(0, 1, 0, 1, -1), 0);
        Due.answered(x, "the second", x.work(0, 600, 23, 99, 0), 1);
        Due.refused(x, "ahead 2: itself", x.work(0, 1, 0, 1, 2), -2);
        for (int w = 2; w < 10; w++) {
            Due.answered(x, "work " + w, x.work(0, w, w, w, w - 1), w);
        }
        Due.refused(x, "the eleventh", x.work(0, 1, 0, 1, -1), -5);
        Due.refused(x, "the eleventh, of nobody", x.work(1, 1, 0, 1, -1), -2);
        Due.refused(x, "the eleventh, behind none", x.work(0, 1, 0, 1, 10), -2);
        Due.refused(x, "the eleventh, too long", x.work(0, 601, 0, 1, -1), -1);
        Due.due("count(1)", x.count(1), 10);
    }

    private static void at() {
        WoundTown x = new WoundTown();
        x.person(0, 0);
        x.person(0, 0);
        x.work(0, 100, 3, 7, -1);
        x.work(1, 200, 23, 99, 0);
        int[][] want = {{0, 100, 3, 7, -1, 0}, {1, 200, 23, 99, 0, 0}};
        for (int w = 0; w < 2; w++) {
            for (int what = 0; what < 6; what++) {
                Due.due("at(" + w + ", " + what + ")", x.at(w, what), want[w][what]);
            }
        }
        Due.due("at(0, 6)", x.at(0, 6), -1);
        Due.due("at(0, -1)", x.at(0, -1), -1);
        Due.due("at(2, 0)", x.at(2, 0), -1);
        Due.due("at(-1, 0)", x.at(-1, 0), -1);
        x.wind(1);
        x.run();
        Due.due("at(0, 5) behind a day", x.at(0, 5), 14);
    }

    private static void terms() {
        WoundTown x = new WoundTown();
        Due.answered(x, "terms(0, 999)", x.terms(0, 999), 0);
        Due.answered(x, "terms(0, 0)", x.terms(0, 0), 999);
        Due.answered(x, "terms(1, 9)", x.terms(1, 9), 7);
        Due.answered(x, "terms(1, 1)", x.terms(1, 1), 9);
        Due.answered(x, "terms(2, 9)", x.terms(2, 9), 0);
        Due.answered(x, "terms(2, 0)", x.terms(2, 0), 9);
        Due.refused(x, "terms(0, -1)", x.terms(0, -1), -1);
        Due.refused(x, "terms(0, 1000)", x.terms(0, 1000), -1);
        Due.refused(x, "terms(1, 0)", x.terms(1, 0), -1);
        Due.refused(x, "terms(1, 10)", x.terms(1, 10), -1);
        Due.refused(x, "terms(2, -1)", x.terms(2, -1), -1);
        Due.refused(x, "terms(2, 10)", x.terms(2, 10), -1);
        Due.refused(x, "terms(3, 1)", x.terms(3, 1), -1);
        Due.refused(x, "terms(-1, 1)", x.terms(-1, 1), -1);
        Due.due("count(15)", x.count(15), 0);
        Due.due("count(16)", x.count(16), 1);
        Due.due("count(17)", x.count(17), 0);
    }
}
