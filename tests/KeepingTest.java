/** Promises 40 to 43: image, back, count, status. */
public final class KeepingTest {
    public static void main(String[] args) {
        wrong();
        whatIsKept();
        whatIsNotKept();
        laws();
        two();
        others();
        counts();
        status();
        Due.finish();
    }

    private static void wrong() {
        WoundTown x = new WoundTown();
        Due.refused(x, "image(2)", x.image(2), -1);
        Due.refused(x, "image(-1)", x.image(-1), -1);
        Due.refused(x, "back(2)", x.back(2), -1);
        Due.refused(x, "back(-1)", x.back(-1), -1);
        Due.refused(x, "back(0)", x.back(0), -2);
        Due.answered(x, "image(1)", x.image(1), 0);
        Due.refused(x, "back(0)", x.back(0), -2);
        Due.answered(x, "back(1)", x.back(1), 0);
        Due.answered(x, "back(1) again", x.back(1), 0);
    }

    private static void whatIsKept() {
        WoundTown x = new WoundTown();
        x.road(1, 2, 3);
        x.person(5, 4);
        x.key(0, 3);
        x.work(0, 600, 23, 9, -1);
        x.sight(0, 0, 19);
        Due.force(x, "speeds 19");
        x.terms(0, 2);
        x.terms(1, 3);
        x.terms(2, 4);
        x.wind(2);
        x.run();
        x.wind(3);
        x.image(0);
        x.road(1, 2, 50);
        x.road(5, 6, 50);
        x.oil(0, 9);
        x.person(1, 1);
        x.key(1, 1);
        x.key(0, 1);
        x.work(1, 1, 1, 1, 0);
        x.forget();
        x.sight(1, 1, 1);
        x.sight(1, 1, 1);
        Due.force(x, "speeds 7");
        x.run();
        x.mend(5);
        x.terms(0, 70);
        x.terms(1, 7);
        x.terms(2, 7);
        Due.answered(x, "back(0)", x.back(0), 0);
        int[] counts = {1, 1, 1, 1, 0};
        for (int what = 0; what < counts.length; what++) Due.due("count(" + what + ")", x.count(what), counts[what]);
        int[] rest = {0, 987, 0, 3, 3, 3, 4};
        for (int what = 0; what < rest.length; what++) {
            Due.due("count(" + (11 + what) + ")", x.count(11 + what), rest[what]);
        }
        Due.due("oil", x.of(0, 0), 4);
        Due.due("place", x.of(0, 1), 4);
        Due.due("little", x.of(0, 2), 2);
        Due.due("done", x.at(0, 5), 19 * 24);
        Due.due("at(1, 0)", x.at(1, 0), -1);
        Due.due("of(1, 0)", x.of(1, 0), -1);
        Due.due("guards(1)", x.guards(1), 2);
        x.road(1, 2, 0);
        Due.due("its road was 3", x.guards(1), 0);
        Due.due("its sights", x.fits(), 0);
        Due.due("its law", x.hour(12, 0, 1), 19);
        Due.answered(x, "a work anew", x.work(0, 100, 1, 1, -1), 1);
        Due.due("nothing of it is done", x.at(1, 5), 0);
        Due.answered(x, "a person anew", x.person(0, 0), 1);
        Due.due("no turns of the little key", x.of(1, 2), 0);
    }

    private static void whatIsNotKept() {
        WoundTown x = new WoundTown();
        x.mend(1);
        x.image(0);
        Due.due("image leaves what can be undone", x.count(4), 1);
        x.mend(1);
        x.person(10, 0);
        x.oil(0, 0);
        Due.tape(x, "abc");
        x.back(0);
        Due.due("nothing can be undone behind back()", x.count(4), 0);
        Due.due("the tape stays", x.count(5), 3);
        Due.due("refusals by -1 stay", x.count(6), 1);
        Due.due("refusals by -2 stay", x.count(7), 1);
        Due.refused(x, "undo()", x.undo(), -3);
        Due.refused(x, "law()", x.law(), -6);
        Due.due("fault()", x.fault(), 0);
        x.back(0);
        Due.due("fault() stays", x.fault(), 0);
        Due.tape(x, "mend 1;run");
        x.orders();
        x.back(0);
        Due.due("fault() stays none", x.fault(), -1);
        Due.due("stopped() stays", x.stopped(), 1);
    }

    /** A law that was read in the place of another leaves that one to the image. */
    private static void laws() {
        WoundTown x = new WoundTown();
        x.image(0);
        Due.force(x, "wears 1");
        x.image(1);
        x.back(0);
        Due.due("no law", x.asks(5, 0), 25);
        Due.due("count(3)", x.count(3), 0);
        Due.refused(x, "force(0)", x.force(0), -2);
        Due.force(x, "wears 2");
        Due.due("the other law 0", x.asks(5, 0), 2);
        x.back(1);
        Due.due("law 0 as it was", x.asks(5, 0), 1);
    }

    private static void two() {
        WoundTown x = new WoundTown();
        x.mend(1);
        x.image(0);
        x.mend(1);
        x.image(1);
        x.mend(1);
        x.back(0);
        Due.due("life of image 0", x.count(12), 1001);
        x.back(1);
        Due.due("life of image 1", x.count(12), 1002);
        x.back(0);
        Due.due("images stay", x.count(12), 1001);
        x.image(1);
        x.mend(5);
        x.back(1);
        Due.due("kept anew", x.count(12), 1001);
    }

    /** Each image has people, works, sights of its own. */
    private static void others() {
        WoundTown x = new WoundTown();
        x.image(0);
        x.person(1, 2);
        x.person(3, 4);
        x.work(0, 10, 11, 12, -1);
        x.work(1, 20, 21, 22, 0);
        x.sight(0, 0, 10);
        x.sight(1, 3, 20);
        int fits = x.fits();
        x.image(1);
        x.back(0);
        x.person(9, 7);
        x.person(8, 6);
        x.work(1, 50, 1, 52, -1);
        x.work(0, 60, 2, 62, -1);
        x.sight(1, 7, 33);
        x.sight(0, 8, 34);
        x.back(1);
        int[] first = {0, 10, 11, 12, -1, 0};
        int[] second = {1, 20, 21, 22, 0, 0};
        for (int what = 0; what < 6; what++) {
            Due.due("at(0, " + what + ")", x.at(0, what), first[what]);
            Due.due("at(1, " + what + ")", x.at(1, what), second[what]);
        }
        Due.due("of(0, 0)", x.of(0, 0), 1);
        Due.due("of(0, 1)", x.of(0, 1), 2);
        Due.due("of(1, 0)", x.of(1, 0), 3);
        Due.due("of(1, 1)", x.of(1, 1), 4);
        Due.due("fits()", x.fits(), fits);
        Due.due("some fit", fits > 0 ? 1 : 0, 1);
    }

    private static void counts() {
        WoundTown x = new WoundTown();
        x.person(0, 0);
        x.person(0, 0);
        x.work(0, 1, 1, 1, -1);
        x.sight(0, 0, 0);
        x.sight(0, 0, 0);
        x.sight(0, 0, 0);
        Due.law(x, "bars");
        Due.law(x, "bars");
        Due.law(x, "bars");
        Due.law(x, "bars");
        x.force(2);
        x.terms(0, 11);
        x.terms(1, 5);
        x.terms(2, 8);
        x.mend(3);
        x.wind(4);
        Due.tape(x, "1234567");
        int[] want = {2, 1, 3, 4, 2, 7, 0, 0, 0, 0, 0, 2, 987, 0, 4, 11, 5, 8};
        for (int what = 0; what < want.length; what++) Due.due("count(" + what + ")", x.count(what), want[what]);
        Due.due("count(18)", x.count(18), -1);
        Due.due("count(-1)", x.count(-1), -1);
        // -1
        x.road(0, 0, 0); x.wind(99); x.mend(0); x.key(0, 0); x.decade(-1, 0);
        // -2
        x.oil(7, 0); x.force(9); x.back(0); x.key(5, 1);
        // -3
        x.wind(1); x.mend(1); x.key(0, 1);
        // -5
        Due.law(x, "bars");
        Due.law(x, "bars");
        x.law();
        x.law();
        // -6
        x.orders();
        // Not counted: these are not REFUSED.
        x.at(9, 9); x.of(9, 9); x.end(-1); x.asks(99, 0); x.hour(99, 0, 0); x.ends(99, 0, 0); x.day(99, 0);
        x.least(-1); x.orderly(9, 9, 9); x.little(9, 9); x.lasts(99); x.odds(99, 0); x.guards(9); x.round(-1, 0);
        x.game(-1); x.drawn(-1); x.count(-1);
        int[] refused = {5, 4, 3, 2, 1};
        for (int what = 0; what < 5; what++) Due.due("count(" + (6 + what) + ")", x.count(6 + what), refused[what]);
    }

    private static void status() {
        WoundTown x = new WoundTown();
        Due.due("status() ahead of any", x.status(), 0);
        x.road(0, 0, 0);
        Due.due("status()", x.status(), -1);
        x.fault(); x.stopped(); x.dust(); x.of(0, 0); x.at(0, 0); x.feed(0, 0, 0, 0, 0); x.end(0); x.asks(1, 0);
        x.hour(1, 1, 0); x.ends(1, 1, 1); x.day(1, 0); x.least(0); x.orderly(0, 0, 0); x.little(0, 0); x.lasts(1);
        x.odds(1, 1); x.forget(); x.fits(); x.guards(0); x.round(0, -1); x.game(1); x.drawn(0); x.count(0); x.status();
        Due.due("others leave it", x.status(), -1);
        x.image(0);
        Due.due("status()", x.status(), 0);
        x.force(0);
        Due.due("status()", x.status(), -2);
        x.force(-1);
        Due.due("force(-1) that answers -1 was not refused", x.status(), 0);
        x.undo();
        Due.due("status()", x.status(), -3);
        x.back(0);
        Due.due("status()", x.status(), 0);
    }
}
