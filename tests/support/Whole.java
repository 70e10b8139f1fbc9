import java.util.LinkedHashMap;
import java.util.Map;

/**
 * All that can be seen of a town, name by name. Looking takes some 350 calls and leaves the town another: what can be
 * undone is undone, its laws come into force, its roads go, it goes back to its images.
 */
final class Whole {
    private final WoundTown x;
    private final Map<String, Long> seen = new LinkedHashMap<>();

    private Whole(WoundTown town) {
        x = town;
    }

    static Map<String, Long> of(WoundTown town) {
        Whole whole = new Whole(town);
        whole.see("status()", town.status());
        for (int what = 0; what <= 17; what++) whole.see("count(" + what + ")", town.count(what));
        whole.see("fault()", town.fault());
        whole.see("stopped()", town.stopped());
        whole.see("dust()", town.dust());
        for (int what = 0; what < 14; what++) whole.see("drawn(" + what + ")", town.drawn(what));
        whole.seeStanding("");
        whole.seeUndone();
        whole.seeLaws();
        whole.seeRoads();
        whole.seeTape();
        whole.seeImages();
        return whole.seen;
    }

    private void see(String what, long answer) {
        seen.put(what, answer);
    }

    private void seeStanding(String when) {
        for (int p = 0; p < x.count(0); p++) {
            for (int what = 0; what < 4; what++) see(when + "of(" + p + ", " + what + ")", x.of(p, what));
            see(when + "hour(9, 1, " + (p + 1) + ")", x.hour(9, 1, p + 1));
        }
        for (int w = 0; w < x.count(1); w++) {
            for (int what = 0; what < 6; what++) see(when + "at(" + w + ", " + what + ")", x.at(w, what));
        }
        see(when + "asks(12, 0)", x.asks(12, 0));
        see(when + "asks(12, 1)", x.asks(12, 1));
        see(when + "hour(9, 1, 0)", x.hour(9, 1, 0));
        see(when + "fits()", x.fits());
    }

    private void seeUndone() {
        for (int n = x.count(4); n > 0; n--) {
            String when = "undone to " + n + ": ";
            see(when + "undo()", x.undo());
            for (int what = 12; what <= 15; what++) see(when + "count(" + what + ")", x.count(what));
            see(when + "of(0, 0)", x.of(0, 0));
            see(when + "of(0, 2)", x.of(0, 2));
            see(when + "at(0, 5)", x.at(0, 5));
        }
    }

    private void seeLaws() {
        for (int law = 0; law < x.count(3); law++) {
            x.force(law);
            see("asks(7, 0) by law " + law, x.asks(7, 0));
            see("asks(7, 1) by law " + law, x.asks(7, 1));
            see("hour(7, 1, 0) by law " + law, x.hour(7, 1, 0));
        }
    }

    private void seeRoads() {
        for (int a = 0; a < 8; a++) {
            for (int b = 0; b < a; b++) see("road(" + a + ", " + b + ")", x.road(a, b, 0));
        }
    }

    /** The bytes as the WORKS that they make, where there is room for them. */
    private void seeTape() {
        int from = x.count(1);
        see("row()", x.row());
        see("dust() of it", x.dust());
        for (int w = from; w < x.count(1); w++) {
            for (int what = 0; what < 4; what++) see("tape: at(" + w + ", " + what + ")", x.at(w, what));
        }
    }

    private void seeImages() {
        for (int k = 0; k < 2; k++) {
            see("back(" + k + ")", x.back(k));
            for (int what = 0; what < 4; what++) see("image " + k + ": count(" + what + ")", x.count(what));
            for (int what = 11; what <= 17; what++) see("image " + k + ": count(" + what + ")", x.count(what));
            see("image " + k + ": guards(1)", x.guards(1));
            if (k == 0) seeStanding("image 0: ");
        }
    }
}
