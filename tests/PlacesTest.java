/** Promises 32 to 37: sight, forget, fits, guards, round, game. */
public final class PlacesTest {
    public static void main(String[] args) {
        sights();
        fits();
        guards();
        round();
        roundByAll();
        game();
        Due.finish();
    }

    private static void sights() {
        WoundTown x = new WoundTown();
        Due.refused(x, "sight(0, 24, 0): -1 ahead of -2", x.sight(0, 24, 0), -1);
        Due.refused(x, "sight(0, 0, 0)", x.sight(0, 0, 0), -2);
        x.person(0, 0);
        x.work(0, 100, 0, 1, -1);
        Due.refused(x, "hour -1", x.sight(0, -1, 0), -1);
        Due.refused(x, "minutes -1", x.sight(0, 0, -1), -1);
        Due.refused(x, "minutes 601", x.sight(0, 0, 601), -1);
        Due.refused(x, "work 1", x.sight(1, 0, 0), -2);
        Due.refused(x, "work -1", x.sight(-1, 0, 0), -2);
        Due.answered(x, "minutes 600", x.sight(0, 23, 600), 1);
        for (int n = 2; n <= 8; n++) Due.answered(x, "sight " + n, x.sight(0, 0, 0), n);
        Due.refused(x, "the ninth", x.sight(0, 0, 0), -5);
        Due.refused(x, "-2 ahead of -5", x.sight(1, 0, 0), -2);
        Due.due("count(2)", x.count(2), 8);
        Due.due("forget()", x.forget(), 8);
        Due.due("status() is sight's yet", x.status(), -2);
        Due.due("forget() of none", x.forget(), 0);
        Due.due("count(2)", x.count(2), 0);
        Due.answered(x, "again", x.sight(0, 0, 0), 1);
    }

    private static void fits() {
        WoundTown x = new WoundTown();
        x.person(0, 0);
        x.work(0, 100, 0, 1, -1);
        x.work(0, 100, 0, 1, -1);
        Due.due("without sights", x.fits(), 8191);
        x.sight(0, 0, 60);
        Due.due("60 at the end of hour 0", x.fits(), 8191 - 63);
        x.sight(0, 1, 100);
        Due.due("100 at the end of hour 1", x.fits(), 8191 - 63);
        x.sight(1, 2, 48);
        Due.due("48 of the other at the end of hour 2", x.fits(), 64);
        x.sight(1, 2, 47);
        Due.due("two that do not go together", x.fits(), 0);
        x.forget();
        x.sight(1, 23, 0);
        Due.due("never begun", x.fits(), 15);
        x.wind(1);
        x.run();
        x.forget();
        x.sight(0, 0, 14);
        Due.due("what was done before counts", x.fits(), 1);
        x.forget();
        x.sight(0, 23, 14 + 14);
        Due.due("one turn more", x.fits(), 2);
    }

    private static void guards() {
        WoundTown x = new WoundTown();
        Due.due("no roads: guards(0)", x.guards(0), 0);
        Due.due("no roads: guards(1)", x.guards(1), 0);
        x.road(6, 7, 1);
        Due.due("one road: guards(0)", x.guards(0), 1);
        Due.due("one road: the lowest", x.guards(1), 64);
        x.road(7, 0, 1);
        x.road(7, 1, 1);
        Due.due("a star: guards(0)", x.guards(0), 1);
        Due.due("a star: guards(1)", x.guards(1), 128);
        x.road(0, 1, 5);
        Due.due("guards(0)", x.guards(0), 2);
        Due.due("guards(1)", x.guards(1), 129);
        x.road(7, 0, 0);
        x.road(7, 1, 0);
        x.road(6, 7, 0);
        Due.due("a road that is none again", x.guards(1), 1);
        for (int a = 0; a < 8; a++) {
            for (int b = 0; b < a; b++) x.road(a, b, 99);
        }
        Due.due("all roads: guards(0)", x.guards(0), 7);
        Due.due("all roads: guards(1)", x.guards(1), 127);
        Due.due("guards(2)", x.guards(2), -1);
        Due.due("guards(-1)", x.guards(-1), -1);
    }

    private static void round() {
        WoundTown x = new WoundTown();
        Due.due("round(0, -1)", x.round(0, -1), 0);
        Due.due("round(0, 0)", x.round(0, 0), -1);
        Due.due("round(1, -1)", x.round(1, -1), 0);
        Due.due("round(1, 0): 0 is told", x.round(1, 0), 0);
        Due.due("round(2, -1): no road", x.round(2, -1), -1);
        Due.due("round(2, 0): no road", x.round(2, 0), -1);
        x.road(0, 3, 10);
        x.road(3, 5, 10);
        x.road(0, 5, 99);
        x.road(5, 6, 1);
        x.road(0, 6, 40);
        Due.due("by places that are not told", x.round(32, -1), 40);
        Due.due("round(32, 0)", x.round(32, 0), 5);
        Due.due("round(32, 1)", x.round(32, 1), -1);
        Due.due("round(96, -1)", x.round(96, -1), 42);
        Due.due("of those alike the first: 5", x.round(96, 0), 5);
        Due.due("of those alike the first: 6", x.round(96, 1), 6);
        Due.due("round(97, 0): 0 is told", x.round(97, 0), 0);
        Due.due("round(97, 2)", x.round(97, 2), 6);
        x.road(0, 6, 20);
        Due.due("round(104, -1)", x.round(104, -1), 41);
        Due.due("round(104, 0)", x.round(104, 0), 3);
        Due.due("round(104, 2)", x.round(104, 2), 6);
        x.road(0, 1, 3);
        Due.due("round(34, 0): there and back by 0", x.round(34, 0), 1);
        Due.due("round(34, -1)", x.round(34, -1), 46);
        Due.due("round(104, -2)", x.round(104, -2), -1);
        Due.due("round(-1, -1)", x.round(-1, -1), -1);
        Due.due("round(256, -1)", x.round(256, -1), -1);
        Due.due("round(255, -1)", x.round(255, -1), -1);
    }

    private static void roundByAll() {
        WoundTown x = new WoundTown();
        int[] ring = {0, 4, 2, 7, 1, 5, 3, 6};
        for (int a = 0; a < 8; a++) {
            for (int b = 0; b < a; b++) x.road(a, b, 9);
        }
        for (int i = 0; i < 8; i++) x.road(ring[i], ring[(i + 1) % 8], 4);
        Due.due("round(255, -1)", x.round(255, -1), 32);
        for (int i = 0; i < 8; i++) Due.due("round(255, " + i + ")", x.round(255, i), ring[i]);
        Due.due("round(255, 8)", x.round(255, 8), -1);
        for (int i = 0; i < 7; i++) Due.due("round(254, " + i + ")", x.round(254, i), ring[i + 1]);
        Due.due("round(254, 7)", x.round(254, 7), -1);
        WoundTown line = new WoundTown();
        for (int i = 0; i < 7; i++) line.road(i, i + 1, 99);
        Due.due("a long line", line.round(128, -1), 2 * 7 * 99);
    }

    private static void game() {
        WoundTown x = new WoundTown();
        int[] wins = {0, 3, 2, 1, 0, 3, 2, 1, 0, 3, 2, 1, 0};
        for (int n = 0; n <= 12; n++) Due.due("game(" + n + ")", x.game(n), wins[n]);
        Due.due("game(13)", x.game(13), -1);
        Due.due("game(-1)", x.game(-1), -1);
    }
}
