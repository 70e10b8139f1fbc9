/**
 * The boundaries that Terms IV names, promises 38 to 43, and how many calls an object is used for; each sentence (told
 * above its test) on the boundary and beyond it.
 */
public final class BoundsOfKeepingTest {
    private static final int LOW = Integer.MIN_VALUE;
    private static final int HIGH = Integer.MAX_VALUE;

    public static void main(String[] args) {
        seeds();
        days();
        draws();
        drawsOfAll();
        belowWhatItSnapsWith();
        aheadOfWhatItWears();
        sundayAsTold();
        lifeWornOut();
        snappedAlready();
        oilAsItIs();
        woundAlready();
        dayThatEndsIt();
        onPaper();
        latestDecade();
        whatOfDrawn();
        images();
        imageNotKept();
        allButTheTape();
        nothingToUndo();
        imagesStay();
        sightsOfImages();
        whatOfCount();
        refusalsAreNotKept();
        refusalsByKind();
        statusOfTheLatest();
        fiveHundredAndTwelve();
        Due.finish();
    }

    private static long s;

    private static int draw(int m) {
        s = (s * 1103 + 12345) % 1000003;
        return (int) (s % m);
    }

    /** The first seed whose first two draws are within these. */
    private static int seed(int leastTurns, int mostTurns, int leastSnap, int mostSnap) {
        for (int seed = 1; ; seed++) {
            s = seed;
            int turns = draw(13);
            int snap = draw(100);
            if (turns >= leastTurns && turns <= mostTurns && snap >= leastSnap && snap <= mostSnap) return seed;
        }
    }

    private static void drawnIs(WoundTown x, String what, int life, int snapped, int day, int ran) {
        int[] want = {life, snapped, day, ran};
        for (int w = 0; w < 4; w++) Due.due(what + ": drawn(" + w + ")", x.drawn(w), want[w]);
    }

    // "the SEED (0 .. 1,000,000)"
    private static void seeds() {
        Edge.taken("seed 0", x -> { }, x -> x.decade(0, 1), 0);
        Edge.taken("seed 1,000,000", x -> { }, x -> x.decade(1000000, 1), 0);
        for (int seed : new int[] {LOW, -1, 1000001, HIGH}) {
            Edge.refused("seed " + seed, Edge::rich, x -> x.decade(seed, 5), -1);
        }
        for (int seed : new int[] {0, 1, 906, 907, 999999, 1000000}) {
            WoundTown x = new WoundTown();
            s = seed;
            int turns = draw(13);
            boolean snaps = draw(100) < 10 * (turns - 9);
            x.decade(seed, 1);
            drawnIs(x, "seed " + seed, snaps ? 1000 : 1000 - turns * turns, snaps ? 1 : 0, 1, snaps ? 0 : 1);
        }
    }

    // "n days 1 .. 60"
    private static void days() {
        Edge.taken("1 day", x -> { }, x -> x.decade(1, 1), 0);
        Edge.taken("60 days", x -> { }, x -> x.decade(1, 60), 0);
        for (int n : new int[] {LOW, -1, 0, 61, HIGH}) {
            Edge.refused(n + " days", Edge::rich, x -> x.decade(5, n), -1);
        }
        for (int n = 1; n <= 60; n++) {
            WoundTown x = new WoundTown();
            Due.force(x, "wears 0; snaps 0");
            x.decade(3, n);
            drawnIs(x, n + " days", 1000, 0, n, n);
        }
    }

    // "s becomes (s times 1103 and 12345) modulo 1,000,003, it is s modulo m"; "a DRAW of 13 .., a DRAW of 100"
    private static void draws() {
        for (int seed = 999900; seed <= 1000000; seed += 4) {
            WoundTown x = new WoundTown();
            Due.force(x, "snaps 0; wears turns * 5 + day % 3");
            x.mend(8999);
            x.terms(1, 1);
            s = seed;
            int life = 9999;
            for (int day = 0; day < 60; day++) {
                int turns = draw(13);
                draw(100);
                if (day % 7 == 6) turns = Math.min(1, turns);
                life -= turns * 5 + day % 3;
            }
            x.decade(seed, 60);
            drawnIs(x, "seed " + seed, life, 0, 60, 60);
        }
    }

    /** Each of 0 .. 12 and of 0 .. 99 is drawn. */
    private static void drawsOfAll() {
        for (int turns = 0; turns <= 12; turns++) {
            WoundTown x = new WoundTown();
            Due.force(x, "snaps 0; wears turns + 1");
            x.decade(seed(turns, turns, 0, 99), 1);
            drawnIs(x, "turns " + turns, 999 - turns, 0, 1, 1);
        }
        for (int snap = 0; snap <= 99; snap++) {
            WoundTown x = new WoundTown();
            Due.force(x, "wears 1; snaps " + snap);
            x.decade(seed(0, 12, snap, snap), 1);
            drawnIs(x, "not below " + snap, 999, 0, 1, 1);
            Due.force(x, "wears 1; snaps " + snap + " + 1");
            x.decade(seed(0, 12, snap, snap), 1);
            drawnIs(x, "below " + (snap + 1), 1000, 1, 1, 0);
        }
    }

    // "below what it SNAPS with it has SNAPPED"
    private static void belowWhatItSnapsWith() {
        WoundTown x = new WoundTown();
        for (int turns = 10; turns <= 12; turns++) {
            int of = 10 * (turns - 9);
            x.decade(seed(turns, turns, of - 1, of - 1), 1);
            drawnIs(x, "just below, by " + turns, 1000, 1, 1, 0);
            x.decade(seed(turns, turns, of, of), 1);
            drawnIs(x, "not below, by " + turns, 1000 - turns * turns, 0, 1, 1);
        }
        x.decade(seed(9, 9, 0, 0), 1);
        drawnIs(x, "0 is not below 0", 919, 0, 1, 1);
        Due.force(x, "snaps 100");
        x.decade(seed(0, 12, 99, 99), 1);
        drawnIs(x, "99 is below 100", 1000, 1, 1, 0);
    }

    // "it has SNAPPED (ahead of what it WEARS)"
    private static void aheadOfWhatItWears() {
        WoundTown x = new WoundTown();
        Due.force(x, "snaps 100 if life = 1000; snaps 0 if life < 1000; wears 10");
        x.decade(1, 5);
        drawnIs(x, "its life is asked ahead of what it wears", 1000, 1, 5, 0);
        x.mend(1);
        Due.force(x, "snaps 100 if life < 1000; snaps 0 if life > 999; wears 2");
        x.decade(1, 5);
        drawnIs(x, "and on the second day again", 999, 1, 5, 1);
    }

    // "WOUND by so many (SUNDAY as told)"
    private static void sundayAsTold() {
        for (int sunday = 1; sunday <= 9; sunday++) {
            for (int turns = 0; turns <= 12; turns++) {
                int by = Math.min(sunday, turns);
                for (int day : new int[] {6, 993}) {
                    WoundTown x = new WoundTown();
                    Due.force(x, "snaps 0; wears turns");
                    x.terms(0, day);
                    x.terms(1, sunday);
                    x.decade(seed(turns, turns, 0, 99), 1);
                    drawnIs(x, turns + " by SUNDAY " + sunday, 1000 - by, 0, day + 1, 1);
                }
            }
        }
        WoundTown x = new WoundTown();
        Due.force(x, "wears turns; snaps 100 if turns > 1; snaps 0 if turns < 2");
        x.terms(0, 6);
        x.terms(1, 1);
        x.decade(seed(12, 12, 0, 99), 1);
        drawnIs(x, "what it snaps with is asked of these turns", 999, 0, 7, 1);
    }

    // "LIFE is less by what that WEARS (0 at least); if it is 0 then, it has SNAPPED, and the town is not WOUND"
    private static void lifeWornOut() {
        int[] wears = {499, 500, 501};
        int[] life = {2, 0, 0};
        for (int w = 0; w < 3; w++) {
            WoundTown x = new WoundTown();
            x.person(9, 0);
            x.work(0, 600, 23, 1, -1);
            Due.force(x, "snaps 0; speeds 1; wears " + wears[w]);
            x.decade(7, 2);
            drawnIs(x, "wears " + wears[w], life[w], w == 0 ? 0 : 1, 2, w == 0 ? 2 : 1);
            Due.due("wears " + wears[w] + ": done", x.drawn(4), w == 0 ? 48 : 24);
        }
    }

    // "Each day, if it is not SNAPPED"
    private static void snappedAlready() {
        WoundTown x = new WoundTown();
        x.person(3, 0);
        x.work(0, 10, 23, 1, -1);
        Due.force(x, "wears 999; snaps 0");
        x.wind(0);
        x.run();
        x.wind(0);
        Due.due("it has snapped", x.count(13), 1);
        Due.force(x, "wears 0; snaps 0; speeds 1");
        Due.answered(x, "decade() of one that has snapped", x.decade(1, 60), 0);
        drawnIs(x, "of one that has snapped", 0, 1, 61, 0);
        Due.due("nothing is done", x.drawn(4), 0);
    }

    // "else it is the next DAY (OIL, LITTLE as they are)"
    private static void oilAsItIs() {
        WoundTown x = new WoundTown();
        x.person(3, 0);
        x.key(0, 5);
        x.work(0, 600, 23, 1, -1);
        Due.force(x, "wears 1; snaps 0; speeds oil + little if hour = 0; speeds 0 if hour > 0");
        x.decade(1, 1);
        Due.due("one day", x.drawn(4), 8);
        x.decade(1, 2);
        Due.due("two days", x.drawn(4), 8 + 6);
        x.decade(1, 60);
        Due.due("sixty days: 0 at least", x.drawn(4), 8 + 6 + 4 + 2 + 1);
        // Once it has snapped no day runs any more: what is done tells nothing of OIL, LITTLE but that.
        Due.force(x, "wears 1; snaps 0; snaps 100 if day = 1; speeds oil + little if hour = 0; speeds 0 if hour > 0");
        x.decade(1, 60);
        Due.due("snapped on the second", x.drawn(4), 8);
        drawnIs(x, "snapped on the second", 999, 1, 60, 1);
    }

    // "(If the town is WOUND already, the first day just RUNS, without DRAWS.)"
    private static void woundAlready() {
        int seed = seed(5, 5, 0, 99);
        for (int turns : new int[] {0, 3, 12}) {
            WoundTown x = new WoundTown();
            x.terms(0, turns == 12 ? 5 : 6);
            x.wind(turns);
            int life = x.count(12);
            int day = x.count(15);
            x.decade(seed, 1);
            drawnIs(x, "wound by " + turns, life, 0, day + 1, 1);
            x.terms(1, 9);
            x.decade(seed, 2);
            drawnIs(x, "then the first draws", life - 25, 0, day + 2, 2);
        }
    }

    // "at DAY 999 it ends (ahead of any DRAW)"
    private static void dayThatEndsIt() {
        for (int day = 995; day <= 999; day++) {
            WoundTown x = new WoundTown();
            Due.force(x, "wears 1; snaps 0");
            x.terms(0, day);
            Due.answered(x, "from day " + day, x.decade(3, 3), 0);
            int ran = Math.min(3, 999 - day);
            drawnIs(x, "from day " + day, 1000 - ran, 0, day + ran, ran);
        }
        WoundTown x = new WoundTown();
        x.terms(0, 999);
        x.wind(1);
        Due.answered(x, "wound on day 999", x.decade(3, 60), 0);
        drawnIs(x, "wound on day 999", 999, 0, 999, 0);
        WoundTown y = new WoundTown();
        Due.force(y, "snaps 100");
        y.terms(0, 950);
        y.decade(3, 60);
        drawnIs(y, "snapped until day 999", 1000, 1, 999, 0);
    }

    // "on paper"
    private static void onPaper() {
        WoundTown x = new WoundTown();
        Edge.rich(x);
        x.decade(11, 60);
        WoundTown y = new WoundTown();
        Edge.rich(y);
        y.decade(12, 1);
        java.util.Map<String, Long> one = Whole.of(x);
        java.util.Map<String, Long> other = Whole.of(y);
        for (int what = 0; what < 14; what++) {
            one.remove("drawn(" + what + ")");
            other.remove("drawn(" + what + ")");
        }
        Due.due("all but what drawn() tells is as it was", one.equals(other) ? 1 : 0, 1);
    }

    // "A DECADE, kept as the latest"
    private static void latestDecade() {
        WoundTown x = new WoundTown();
        for (int what = -1; what < 15; what++) Due.due("ahead of any: drawn(" + what + ")", x.drawn(what), -1);
        x.decade(-1, 1);
        Due.due("behind one that was refused", x.drawn(0), -1);
        x.decade(seed(5, 5, 0, 99), 1);
        drawnIs(x, "the first", 975, 0, 1, 1);
        x.decade(0, 61);
        drawnIs(x, "behind one that was refused", 975, 0, 1, 1);
        x.mend(5);
        drawnIs(x, "whatever is done", 975, 0, 1, 1);
        x.decade(seed(2, 2, 0, 99), 1);
        drawnIs(x, "the latest", 1001, 0, 1, 1);
    }

    // "LIFE (what 0), SNAPPED (1: 1, 0), DAY (2), days on which it RAN (3), what of WORK k is DONE (4 + k). NONE."
    private static void whatOfDrawn() {
        Edge.asked("drawn(7): the last work", Edge::rich, x -> x.drawn(7), 40);
        for (int what : new int[] {LOW, -1, 8, 13, 14, HIGH}) {
            Edge.none("drawn(" + what + ")", Edge::rich, x -> x.drawn(what));
        }
        WoundTown x = new WoundTown();
        x.person(9, 0);
        for (int w = 0; w < 10; w++) x.work(0, w + 1, 23, 1, -1);
        Due.force(x, "snaps 0; wears 0; speeds 60");
        Due.answered(x, "decade()", x.decade(1, 1), 10);
        for (int w = 0; w < 10; w++) Due.due("drawn(" + (4 + w) + ")", x.drawn(4 + w), w + 1);
        Due.due("drawn(14)", x.drawn(14), -1);
        Due.answered(x, "decade()", x.decade(1, 60), 10);
        WoundTown none = new WoundTown();
        none.decade(1, 1);
        Due.due("drawn(4) without works", none.drawn(4), -1);
        none.person(0, 0);
        none.work(0, 1, 1, 1, -1);
        Due.due("a work that came later", none.drawn(4), -1);
    }

    // "IMAGES 0, 1"
    private static void images() {
        Edge.taken("image(0)", Edge::rich, x -> x.image(0), 0);
        Edge.taken("image(1)", Edge::rich, x -> x.image(1), 0);
        for (int k : new int[] {LOW, -1, 2, HIGH}) {
            Edge.refused("image(" + k + ")", Edge::rich, x -> x.image(k), -1);
            Edge.refused("back(" + k + ")", Edge::rich, x -> x.back(k), -1);
        }
    }

    // "-2 it was not kept"
    private static void imageNotKept() {
        Edge.refused("back(1)", Edge::rich, x -> x.back(1), -2);
        Edge.taken("back(0)", Edge::rich, x -> x.back(0), 0);
        Edge.refused("back(0) of a new object", x -> { }, x -> x.back(0), -2);
        Edge.refused("back(0) where 1 is kept", x -> x.image(1), x -> x.back(0), -2);
        Edge.taken("back(1) where 1 is kept", x -> x.image(1), x -> x.back(1), 0);
    }

    // "keep all but the TAPE, FAULT, DUST, where ORDERS stopped, .., the latest DECADE"
    private static void allButTheTape() {
        WoundTown x = new WoundTown();
        Edge.rich(x);
        x.image(1);
        x.person(9, 7);
        Due.bytes(x, new byte[] {2, 5, 5, 5, 9, 9, 9, 9, 9, 9});
        x.row();
        Due.orders(x, "mend 1; mend 1; run");
        Due.law(x, "bars ?");
        x.decade(77, 9);
        Due.tape(x, "abc");
        int[] drawn = new int[14];
        for (int what = 0; what < 14; what++) drawn[what] = x.drawn(what);
        Due.answered(x, "back(1)", x.back(1), 0);
        Due.due("count(0)", x.count(0), 2);
        Due.due("count(1)", x.count(1), 4);
        Due.due("the tape", x.count(5), 3);
        Due.due("fault()", x.fault(), 5);
        Due.due("dust()", x.dust(), 2);
        Due.due("stopped()", x.stopped(), 2);
        for (int what = 0; what < 14; what++) Due.due("drawn(" + what + ")", x.drawn(what), drawn[what]);
    }

    // "what can be undone (nothing, behind back())"
    private static void nothingToUndo() {
        WoundTown x = new WoundTown();
        Edge.rich(x);
        Due.due("three can be undone", x.count(4), 3);
        x.image(1);
        Due.due("image() leaves them", x.count(4), 3);
        x.back(1);
        Due.due("back() does not", x.count(4), 0);
        Due.refused(x, "undo()", x.undo(), -3);
        x.mend(1);
        Due.answered(x, "what is done anew", x.undo(), 3);
        Due.refused(x, "undo()", x.undo(), -3);
    }

    // "BACK to one all that it keeps is as it was then (IMAGES stay)"
    private static void imagesStay() {
        WoundTown x = new WoundTown();
        x.image(0);
        Edge.rich(x);
        x.image(1);
        Due.answered(x, "back(0)", x.back(0), 0);
        Due.due("the image of rich() was kept in the place of the first", x.count(0), 2);
        Due.due("its life", x.count(12), 1000);
        Due.answered(x, "back(1)", x.back(1), 0);
        Due.due("its life", x.count(12), 993);
        x.mend(9);
        x.wind(1);
        Due.answered(x, "back(1)", x.back(1), 0);
        Due.due("its life", x.count(12), 993);
        Due.due("not wound", x.count(14), -1);
        x.wind(4);
        x.image(0);
        x.run();
        x.back(0);
        Due.due("wound as it was", x.count(14), 4);
        Due.answered(x, "run()", x.run(), 1);
        WoundTown y = new WoundTown();
        y.image(0);
        Edge.Setting more = z -> {
            for (int p = 0; p < 6; p++) z.person(9, p);
            for (int w = 0; w < 10; w++) z.work(w % 6, 5, 5, 5, -1);
            for (int n = 0; n < 8; n++) z.sight(0, 0, 0);
            for (int law = 0; law < 6; law++) Due.law(z, "bars");
            z.force(5);
            z.terms(0, 999);
            z.terms(1, 9);
            z.terms(2, 9);
            z.mend(9999);
            z.wind(12);
        };
        more.of(y);
        y.image(1);
        y.back(0);
        int[] empty = {0, 0, 0, 0, 0, 0, 0, 0, 0, 0, 0, -1, 1000, 0, -1, 0, 7, 0};
        for (int what = 0; what < 18; what++) Due.due("the empty one: count(" + what + ")", y.count(what), empty[what]);
        y.back(1);
        int[] full = {6, 10, 8, 6, 0, 0, 0, 0, 0, 0, 0, 5, 9855, 0, 12, 999, 9, 9};
        for (int what = 0; what < 18; what++) Due.due("the full one: count(" + what + ")", y.count(what), full[what]);
    }

    /** A SIGHT's WORK, HOUR and minutes are as they were then, each of them. */
    private static void sightsOfImages() {
        int[][] others = {{1, 5, 60}, {0, 6, 60}, {0, 4, 60}, {0, 5, 61}};
        for (int[] other : others) {
            WoundTown x = new WoundTown();
            x.person(9, 0);
            x.work(0, 600, 23, 1, -1);
            x.work(0, 600, 23, 1, -1);
            Due.force(x, "speeds 10");
            x.sight(0, 5, 60);
            Due.due("60 at the end of hour 5", x.fits(), 8191);
            x.image(0);
            x.forget();
            x.sight(other[0], other[1], other[2]);
            Due.due("another sight", x.fits(), 0);
            x.back(0);
            Due.due("the first again", x.fits(), 8191);
        }
    }

    // "0 PEOPLE, 1 WORKS, .. 15 .. 17 TERMS 0 .. 2. NONE for others."
    private static void whatOfCount() {
        for (int what : new int[] {LOW, -1, 18, HIGH}) Edge.none("count(" + what + ")", Edge::rich, x -> x.count(what));
        int[] want = {2, 4, 1, 2, 3, 8, 0, 0, 1, 0, 1, 0, 993, 0, -1, 1, 8, 4};
        for (int what = 0; what < want.length; what++) {
            int asked = what;
            Edge.asked("count(" + what + ")", Edge::rich, x -> x.count(asked), want[what]);
        }
        Edge.asked("count(14)", Edge::wound, x -> x.count(14), 6);
        Edge.asked("count(4)", Edge::wound, x -> x.count(4), 4);
    }

    // "how many calls were REFUSED by -1, -2, -3, -5, -6 (IMAGES do not keep that)"
    private static void refusalsAreNotKept() {
        WoundTown x = new WoundTown();
        x.image(0);
        x.road(0, 0, 0);
        x.back(1);
        x.undo();
        x.row();
        for (int p = 0; p < 7; p++) x.person(0, 0);
        for (int what = 6; what <= 10; what++) Due.due("count(" + what + ")", x.count(what), 1);
        x.back(0);
        for (int what = 6; what <= 10; what++) Due.due("behind back(): count(" + what + ")", x.count(what), 1);
        Due.due("behind back(): count(0)", x.count(0), 0);
    }

    /** Each call that can be REFUSED, and by what: it is counted there alone. */
    private static void refusalsByKind() {
        Edge.Setting full = x -> {
            for (int p = 0; p < 6; p++) x.person(9, p);
            for (int w = 0; w < 10; w++) x.work(w % 6, 5, 5, 5, -1);
            for (int n = 0; n < 8; n++) x.sight(0, 0, 0);
            for (int law = 0; law < 6; law++) Due.law(x, "bars");
        };
        Edge.refused("road", full, x -> x.road(0, 0, 0), -1);
        Edge.refused("person by -1", full, x -> x.person(10, 0), -1);
        Edge.refused("person by -5", full, x -> x.person(0, 0), -5);
        Edge.refused("oil by -1", full, x -> x.oil(0, 10), -1);
        Edge.refused("oil by -2", full, x -> x.oil(6, 0), -2);
        Edge.refused("work by -1", full, x -> x.work(0, 0, 0, 0, -1), -1);
        Edge.refused("work by -2", full, x -> x.work(6, 1, 1, 1, -1), -2);
        Edge.refused("work by -5", full, x -> x.work(0, 1, 1, 1, -1), -5);
        Edge.refused("terms", full, x -> x.terms(3, 0), -1);
        Edge.refused("row", full, x -> x.row(), -6);
        Edge.refused("law by -5", full, x -> x.law(), -5);
        Edge.refusedBut("law by -6", x -> { }, x -> x.law(), -6, x -> { }, "fault()");
        Edge.refusedBut("orders by -3", full, x -> Due.orders(x, "run"), -3, x -> { }, "stopped()", "fault()");
        Edge.refusedBut("orders by -6", full, x -> x.orders(), -6, x -> { }, "fault()");
        Edge.refused("force", full, x -> x.force(6), -2);
        Edge.refused("wind by -1", full, x -> x.wind(13), -1);
        Edge.refused("wind by -3", Edge::wound, x -> x.wind(12), -3);
        Edge.refused("key by -1", full, x -> x.key(0, 0), -1);
        Edge.refused("key by -2", full, x -> x.key(6, 1), -2);
        Edge.refused("key by -3", Edge::rich, x -> x.key(0, 9), -3);
        Edge.refused("run", full, x -> x.run(), -3);
        Edge.refused("mend by -1", full, x -> x.mend(0), -1);
        Edge.refused("mend by -3", Edge::wound, x -> x.mend(1), -3);
        Edge.refused("undo", full, x -> x.undo(), -3);
        Edge.refused("sight by -1", full, x -> x.sight(0, 24, 0), -1);
        Edge.refused("sight by -2", full, x -> x.sight(10, 0, 0), -2);
        Edge.refused("sight by -5", full, x -> x.sight(0, 0, 0), -5);
        Edge.refused("decade", full, x -> x.decade(-1, 1), -1);
        Edge.refused("image", full, x -> x.image(2), -1);
        Edge.refused("back by -1", full, x -> x.back(2), -1);
        Edge.refused("back by -2", full, x -> x.back(0), -2);
    }

    /** Whether the call tells status(): behind one that was REFUSED by -1 and is done without refusal. */
    private static void tells(String what, Edge.Setting setting, Edge.Call call, boolean tells) {
        WoundTown x = new WoundTown();
        setting.of(x);
        x.road(0, 0, 0);
        Due.due(what + ": status() ahead of it", x.status(), -1);
        long answer = call.on(x);
        Due.due(what + ", which answers " + answer + ": status()", x.status(), tells ? 0 : -1);
    }

    // "What the latest call of road, person, .. was REFUSED by; 0 if it was not, or ahead of any."
    private static void statusOfTheLatest() {
        Due.due("ahead of any", new WoundTown().status(), 0);
        tells("road", Edge::rich, x -> x.road(0, 1, 0), true);
        tells("person", Edge::rich, x -> x.person(0, 0), true);
        tells("oil", Edge::rich, x -> x.oil(0, 0), true);
        tells("work", Edge::rich, x -> x.work(0, 1, 1, 1, -1), true);
        tells("terms", Edge::rich, x -> x.terms(0, 0), true);
        tells("row", Edge::rich, x -> x.row(), true);
        tells("law", Edge::rich, x -> Due.law(x, "bars"), true);
        tells("orders", Edge::rich, x -> Due.orders(x, "mend 1"), true);
        tells("force that answers -1", x -> { }, x -> x.force(-1), true);
        tells("wind", Edge::rich, x -> x.wind(1), true);
        tells("wind that snaps", x -> {
            Edge.rich(x);
            Due.force(x, "wears 999");
        }, x -> x.wind(1), true);
        tells("key", Edge::rich, x -> x.key(0, 1), true);
        tells("run", Edge::wound, x -> x.run(), true);
        tells("mend", Edge::rich, x -> x.mend(1), true);
        tells("undo", Edge::rich, x -> x.undo(), true);
        tells("sight", Edge::rich, x -> x.sight(0, 0, 0), true);
        tells("decade", Edge::rich, x -> x.decade(1, 1), true);
        tells("image", Edge::rich, x -> x.image(0), true);
        tells("back", Edge::rich, x -> x.back(0), true);
        tells("of", Edge::rich, x -> x.of(0, 0), false);
        tells("at", Edge::rich, x -> x.at(0, 0), false);
        tells("feed", Edge::rich, x -> x.feed(0, 0, 0, 0, 0), false);
        tells("end", Edge::rich, x -> x.end(0), false);
        tells("end that answers NONE", Edge::rich, x -> x.end(-1), false);
        tells("dust", Edge::rich, x -> x.dust(), false);
        tells("fault", Edge::rich, x -> x.fault(), false);
        tells("stopped", Edge::rich, x -> x.stopped(), false);
        tells("asks", Edge::rich, x -> x.asks(1, 0), false);
        tells("hour", Edge::rich, x -> x.hour(1, 1, 0), false);
        tells("ends", Edge::rich, x -> x.ends(1, 2, 0), false);
        tells("day", Edge::rich, x -> x.day(1, 0), false);
        tells("least", Edge::rich, x -> x.least(4), false);
        tells("orderly", Edge::rich, x -> x.orderly(0, 1, -1), false);
        tells("little", Edge::rich, x -> x.little(2, 1), false);
        tells("lasts", Edge::rich, x -> x.lasts(1), false);
        tells("odds", Edge::rich, x -> x.odds(1, 1), false);
        tells("forget", Edge::rich, x -> x.forget(), false);
        tells("fits", Edge::rich, x -> x.fits(), false);
        tells("guards", Edge::rich, x -> x.guards(0), false);
        tells("round", Edge::rich, x -> x.round(2, -1), false);
        tells("game", Edge::rich, x -> x.game(1), false);
        tells("drawn", Edge::rich, x -> x.drawn(0), false);
        tells("count", Edge::rich, x -> x.count(0), false);
        tells("status", Edge::rich, x -> x.status(), false);
    }

    // "An object is used for at most 512 calls": the last of them is answered as any other
    private static void fiveHundredAndTwelve() {
        WoundTown x = new WoundTown();
        for (int call = 1; call <= 511; call++) Due.due("refused, call " + call, x.road(0, 0, 0), -1);
        Due.due("call 512", x.count(6), 511);
        WoundTown y = new WoundTown();
        for (int call = 1; call <= 511; call++) y.mend(1);
        Due.due("call 512", y.mend(1), 1512);
        WoundTown z = new WoundTown();
        for (int p = 0; p < 6; p++) z.person(9, p);
        for (int w = 0; w < 10; w++) z.work(w % 6, 600, 23, 9, w - 1);
        for (int call = 17; call <= 511; call++) z.decade(call, 60);
        Due.due("call 512", z.orderly(0, 12, -1), 9);
        WoundTown law = new WoundTown();
        law.image(0);
        for (int call = 2; call < 510; call += 4) {
            law.feed('b' << 24 | 'a' << 16 | 'r' << 8 | 's', 0x20202020, 0x20202020, 0x20202020, 0x20202020);
            Due.due("law", law.law(), 0);
            law.back(0);
            law.end(0);
        }
        law.feed('b' << 24 | 'a' << 16 | 'r' << 8 | 's', 0x20202020, 0x20202020, 0x20202020, 0x20202020);
        Due.due("a law late on", law.law(), 0);
        Due.due("count(3)", law.count(3), 1);
    }
}
