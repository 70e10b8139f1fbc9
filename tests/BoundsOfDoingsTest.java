/**
 * The boundaries that Terms III names for what is done (promises 19 to 23), each sentence (told above its test) on the
 * boundary and beyond it; what is REFUSED leaves all as it was.
 */
public final class BoundsOfDoingsTest {
    private static final int LOW = Integer.MIN_VALUE;
    private static final int HIGH = Integer.MAX_VALUE;

    public static void main(String[] args) {
        turnsOfWind();
        notWoundYet();
        notSnapped();
        onSunday();
        lifeAfterWind();
        turnsOfKey();
        nineAltogether();
        personOfKey();
        notBarred();
        notWoundToRun();
        lastDay();
        hours();
        whatIsOver();
        hourBefore();
        nothingLess();
        townOfNobody();
        lifeOfMend();
        woundToMend();
        lifeAtMost();
        snappedNoMore();
        noneToUndo();
        sixteenKept();
        roundAndRound();
        kinds();
        whatIsAsItWas();
        nothingBehind();
        refusedKeeps();
        orderOfRefusals();
        Due.finish();
    }

    // "WOUND by TURNS 0 .. 12"
    private static void turnsOfWind() {
        Edge.taken("wind(0)", x -> { }, x -> x.wind(0), 1000);
        Edge.taken("wind(12)", x -> { }, x -> x.wind(12), 856);
        for (int turns : new int[] {LOW, -1, 13, HIGH}) {
            Edge.refused("wind(" + turns + ")", Edge::rich, x -> x.wind(turns), -1);
        }
    }

    // "not WOUND yet"
    private static void notWoundYet() {
        Edge.refused("wind(1) of one that is wound", Edge::wound, x -> x.wind(1), -3);
        Edge.refused("wind(0) of one that is wound", Edge::wound, x -> x.wind(0), -3);
        Edge.Setting byNone = x -> {
            Edge.rich(x);
            x.wind(0);
        };
        Edge.refused("wind(1) of one that is wound by 0", byNone, x -> x.wind(1), -3);
        Edge.Setting ran = x -> {
            byNone.of(x);
            x.run();
        };
        Edge.taken("wind(1) the day after", ran, x -> x.wind(1), 990);
    }

    private static void snapped(WoundTown x) {
        Edge.rich(x);
        Due.force(x, "wears 993");
        x.wind(3);
        Due.due("it has snapped", x.count(13), 1);
    }

    // "not SNAPPED"
    private static void notSnapped() {
        for (int turns : new int[] {0, 1, 12}) {
            Edge.refused("wind(" + turns + ")", BoundsOfDoingsTest::snapped, x -> x.wind(turns), -3);
        }
        Edge.Setting mended = x -> {
            snapped(x);
            x.mend(994);
        };
        Edge.taken("wind(1) of one that was mended", mended, x -> x.wind(1), 1);
    }

    // "on a SUNDAY, DAY modulo 7 is 6, by TERM SUNDAY at most"
    private static void onSunday() {
        for (int sunday = 1; sunday <= 9; sunday++) {
            int most = sunday;
            for (int day : new int[] {6, 13, 993}) {
                Edge.Setting setting = x -> {
                    Edge.rich(x);
                    x.terms(0, day);
                    x.terms(1, most);
                };
                Edge.taken("by " + most + " on day " + day, setting, x -> x.wind(most), 993 - most - 1);
                Edge.refused("by " + (most + 1) + " on day " + day, setting, x -> x.wind(most + 1), -3);
            }
            for (int day : new int[] {0, 5, 7, 12, 14, 992, 994, 999}) {
                Edge.Setting setting = x -> {
                    Edge.rich(x);
                    x.terms(0, day);
                    x.terms(1, most);
                };
                Edge.taken("by 12 on day " + day, setting, x -> x.wind(12), 980);
            }
        }
        Edge.refused("by 12 at first on day 6", x -> x.terms(0, 6), x -> x.wind(12), -3);
        Edge.refused("by 8 at first on day 6", x -> x.terms(0, 6), x -> x.wind(8), -3);
        Edge.taken("by 7 at first on day 6", x -> x.terms(0, 6), x -> x.wind(7), 951);
        Edge.taken("by 0 at first on day 6", x -> x.terms(0, 6), x -> x.wind(0), 1000);
    }

    private static void windsTo(int mended, String law, int life, int snapped) {
        WoundTown x = new WoundTown();
        if (mended > 0) x.mend(mended);
        Due.force(x, law);
        Due.answered(x, "wind(2) by \"" + law + "\"", x.wind(2), life);
        Due.due("life by \"" + law + "\"", x.count(12), life);
        Due.due("snapped by \"" + law + "\"", x.count(13), snapped);
        Due.due("turns by \"" + law + "\"", x.count(14), snapped == 1 ? -1 : 2);
        Due.due("what can be undone by \"" + law + "\"", x.count(4), mended > 0 ? 2 : 1);
    }

    // "LIFE is less by what that WEARS (0 at least); if it is 0 then, it has SNAPPED, and the town is not WOUND"
    private static void lifeAfterWind() {
        windsTo(0, "wears 0", 1000, 0);
        windsTo(0, "wears 999", 1, 0);
        windsTo(0, "wears life", 1, 0);
        WoundTown x = new WoundTown();
        Due.force(x, "wears 500");
        x.wind(2);
        x.run();
        Due.answered(x, "to 0", x.wind(2), 0);
        Due.due("snapped", x.count(13), 1);
        Due.due("turns", x.count(14), -1);
        x.undo();
        Due.force(x, "wears 499");
        Due.answered(x, "to 1", x.wind(2), 1);
        Due.due("snapped", x.count(13), 0);
        Due.due("turns", x.count(14), 2);
        x.undo();
        Due.force(x, "wears 501");
        Due.answered(x, "below 0", x.wind(2), 0);
        Due.due("snapped", x.count(13), 1);
        windsTo(8999, "wears 999", 9000, 0);
    }

    // "turns 1 .. 9"
    private static void turnsOfKey() {
        Edge.taken("key(1, 1)", Edge::rich, x -> x.key(1, 1), 1);
        Edge.taken("key(0, 9)", x -> x.person(0, 0), x -> x.key(0, 9), 9);
        for (int turns : new int[] {LOW, -1, 0, 10, HIGH}) {
            Edge.refused("key(1, " + turns + ")", Edge::rich, x -> x.key(1, turns), -1);
        }
    }

    // "LITTLE is so much more (9 at most altogether)"
    private static void nineAltogether() {
        for (int had = 1; had <= 9; had++) {
            int little = had;
            Edge.Setting setting = x -> {
                Edge.rich(x);
                x.force(-1);
                x.key(1, little);
            };
            if (had < 9) Edge.taken("to 9 from " + had, setting, x -> x.key(1, 9 - little), 9);
            Edge.refused("to 10 from " + had, setting, x -> x.key(1, 10 - little), -3);
            Edge.refused("9 more than " + had, setting, x -> x.key(1, 9), -3);
        }
    }

    // "-2 there is no such PERSON"
    private static void personOfKey() {
        for (int person : new int[] {LOW, -1, 2, 6, HIGH}) {
            Edge.refused("key(" + person + ", 1)", Edge::rich, x -> x.key(person, 1), -2);
        }
        Edge.refused("key(0, 1) of nobody", x -> { }, x -> x.key(0, 1), -2);
        Edge.taken("key(0, 1) of a town that is wound", Edge::wound, x -> x.key(0, 1), 2);
    }

    // "not BARRED"
    private static void notBarred() {
        Edge.taken("to 8", Edge::rich, x -> x.key(1, 8), 8);
        Edge.refused("to 9, which is barred", Edge::rich, x -> x.key(1, 9), -3);
    }

    // "To RUN a day (WOUND)"
    private static void notWoundToRun() {
        Edge.refused("run() of one that is not wound", Edge::rich, x -> x.run(), -3);
        Edge.refused("run() of a new object", x -> { }, x -> x.run(), -3);
        Edge.refused("run() of one that has snapped", BoundsOfDoingsTest::snapped, x -> x.run(), -3);
        Edge.taken("run()", Edge::wound, x -> x.run(), 1);
        Edge.Setting ran = x -> {
            Edge.wound(x);
            x.run();
        };
        Edge.refused("run() twice", ran, x -> x.run(), -3);
    }

    // "Behind HOUR 23 it is the next DAY (at DAY 999 it can't be run)"
    private static void lastDay() {
        for (int day : new int[] {0, 6, 997, 998}) {
            WoundTown x = new WoundTown();
            x.terms(0, day);
            x.wind(1);
            Due.answered(x, "run() on day " + day, x.run(), 0);
            Due.due("the next day", x.count(15), day + 1);
            Due.due("it is not wound", x.count(14), -1);
        }
        Edge.Setting last = x -> {
            Edge.rich(x);
            x.terms(0, 999);
            x.wind(2);
        };
        Edge.refused("run() on day 999", last, x -> x.run(), -3);
    }

    // "HOURS 0 .. 23"
    private static void hours() {
        WoundTown x = new WoundTown();
        x.person(9, 0);
        x.work(0, 24, 23, 1, -1);
        x.work(0, 1, 23, 1, -1);
        Due.force(x, "speeds 1");
        x.wind(1);
        Due.answered(x, "run()", x.run(), 1);
        Due.due("24 of 24", x.at(0, 5), 24);
        Due.due("0 of 1", x.at(1, 5), 0);
        WoundTown y = new WoundTown();
        y.person(9, 0);
        y.work(0, 25, 23, 1, -1);
        Due.force(y, "speeds 1");
        y.wind(1);
        Due.answered(y, "run()", y.run(), 0);
        Due.due("24 of 25", y.at(0, 5), 24);
        y.wind(1);
        Due.answered(y, "run()", y.run(), 1);
        Due.due("25 of 25", y.at(0, 5), 25);
        y.wind(1);
        Due.answered(y, "what is done all does not end again", y.run(), 0);
        Due.due("25 of 25", y.at(0, 5), 25);
    }

    // "as many minutes as one SPEEDS, what is over is lost"; "the first .. (by numbers) that is not DONE all"
    private static void whatIsOver() {
        WoundTown x = new WoundTown();
        x.person(9, 0);
        for (int minutes : new int[] {59, 60, 61, 1}) x.work(0, minutes, 23, 1, -1);
        Due.force(x, "runs 0; speeds 60 if hour < 3");
        int[] done = {59, 60, 60, 0};
        for (int w = 0; w < 4; w++) Due.due("by paper " + w, x.ends(0, w, 1), done[w]);
        x.wind(0);
        Due.answered(x, "run()", x.run(), 2);
        for (int w = 0; w < 4; w++) Due.due("done of " + w, x.at(w, 5), done[w]);
    }

    // "the one AHEAD of which (if there is one) was DONE all at the end of an HOUR before"
    private static void hourBefore() {
        WoundTown x = new WoundTown();
        for (int p = 0; p < 3; p++) x.person(9, 0);
        x.work(1, 60, 23, 1, -1);
        x.work(0, 60, 23, 1, 0);
        x.work(2, 60, 23, 1, 0);
        x.work(2, 60, 23, 1, 2);
        x.work(0, 60, 23, 1, 3);
        Due.force(x, "runs 0; speeds 60 if hour < 4");
        int[] ends = {0, 1, 1, 2, 3};
        for (int w = 0; w < 5; w++) Due.due("by paper " + w, x.ends(0, w, 0), ends[w]);
        x.wind(0);
        Due.answered(x, "run()", x.run(), 5);
        x.work(1, 61, 23, 1, -1);
        x.work(0, 1, 23, 1, 5);
        x.work(0, 1, 0, 1, 4);
        Due.due("what lacks one minute is not done", x.ends(0, 6, 0), 2);
        Due.due("nor waited for by another work", x.ends(0, 7, 0), 0);
    }

    // "all LITTLE, all OIL are one less (0 at least)"
    private static void nothingLess() {
        WoundTown x = new WoundTown();
        for (int p = 0; p < 6; p++) {
            x.person(p % 3, 0);
            if (p / 2 > 0) x.key(p, p / 2);
        }
        int[] oil = {0, 0, 1, 0, 0, 1};
        int[] little = {0, 0, 0, 0, 1, 1};
        x.wind(0);
        x.run();
        for (int p = 0; p < 6; p++) {
            Due.due("oil of " + p, x.of(p, 0), oil[p]);
            Due.due("little of " + p, x.of(p, 2), little[p]);
        }
        x.wind(0);
        x.run();
        x.wind(0);
        x.run();
        for (int p = 0; p < 6; p++) Due.due("none left of " + p, x.of(p, 0) + x.of(p, 2), 0);
    }

    /** The empty case: a day of a town without people, and without works. */
    private static void townOfNobody() {
        WoundTown x = new WoundTown();
        x.wind(12);
        Due.answered(x, "run() of nobody", x.run(), 0);
        Due.due("day", x.count(15), 1);
        x.person(1, 0);
        x.wind(12);
        Due.answered(x, "run() without works", x.run(), 0);
        Due.due("oil", x.of(0, 0), 0);
    }

    // "To MEND by 1 .. 9,999"
    private static void lifeOfMend() {
        Edge.taken("mend(1)", Edge::rich, x -> x.mend(1), 994);
        Edge.taken("mend(9999)", Edge::rich, x -> x.mend(9999), 9999);
        for (int life : new int[] {LOW, -1, 0, 10000, HIGH}) {
            Edge.refused("mend(" + life + ")", Edge::rich, x -> x.mend(life), -1);
        }
    }

    // "To MEND (not WOUND)"
    private static void woundToMend() {
        Edge.refused("mend(1) of one that is wound", Edge::wound, x -> x.mend(1), -3);
        Edge.Setting byNone = x -> {
            Edge.rich(x);
            x.wind(0);
        };
        Edge.refused("mend(1) of one that is wound by 0", byNone, x -> x.mend(1), -3);
    }

    // "LIFE more (9,999 at most)"
    private static void lifeAtMost() {
        Edge.taken("to 9,998", x -> { }, x -> x.mend(8998), 9998);
        Edge.taken("to 9,999", x -> { }, x -> x.mend(8999), 9999);
        Edge.taken("beyond", x -> { }, x -> x.mend(9000), 9999);
        Edge.taken("at 9,999", x -> x.mend(8999), x -> x.mend(1), 9999);
        WoundTown x = new WoundTown();
        x.mend(9999);
        x.mend(9999);
        Due.due("life", x.count(12), 9999);
        x.undo();
        Due.due("life", x.count(12), 9999);
        x.undo();
        Due.due("life", x.count(12), 1000);
    }

    // "not SNAPPED any more"
    private static void snappedNoMore() {
        WoundTown x = new WoundTown();
        snapped(x);
        Due.answered(x, "mend(1)", x.mend(1), 1);
        Due.due("snapped", x.count(13), 0);
        x.undo();
        Due.due("undone: snapped", x.count(13), 1);
        Due.due("life", x.count(12), 0);
        WoundTown y = new WoundTown();
        snapped(y);
        Due.answered(y, "mend(9999)", y.mend(9999), 9999);
    }

    // "-3 there is none"
    private static void noneToUndo() {
        Edge.refused("undo() of a new object", x -> { }, x -> x.undo(), -3);
        Edge.Setting undone = x -> {
            Edge.rich(x);
            for (int n = 0; n < 3; n++) x.undo();
        };
        Edge.refused("undo() when all is undone", undone, x -> x.undo(), -3);
    }

    // "16 are kept"
    private static void sixteenKept() {
        for (int many : new int[] {15, 16, 17, 40}) {
            WoundTown x = new WoundTown();
            for (int n = 1; n <= many; n++) x.mend(1);
            int kept = Math.min(16, many);
            Due.due(many + ": count(4)", x.count(4), kept);
            for (int n = 0; n < kept; n++) {
                Due.due(many + ": life", x.count(12), 1000 + many - n);
                Due.answered(x, many + ": undo()", x.undo(), 3);
                Due.due(many + ": count(4)", x.count(4), kept - n - 1);
            }
            Due.refused(x, many + ": undo()", x.undo(), -3);
            Due.due(many + ": life", x.count(12), 1000 + many - kept);
        }
    }

    /** What is kept comes round: more and more is done, and some of it undone in between. */
    private static void roundAndRound() {
        WoundTown x = new WoundTown();
        java.util.ArrayDeque<Integer> lives = new java.util.ArrayDeque<>();
        int life = 1000;
        for (int n = 1; n <= 150; n++) {
            if (n % 4 == 0 || n % 23 == 0) {
                life = lives.removeLast();
                Due.answered(x, "undo() at " + n, x.undo(), 3);
            } else {
                lives.addLast(life);
                if (lives.size() > 16) lives.removeFirst();
                life += n;
                Due.answered(x, "mend at " + n, x.mend(n), life);
            }
            Due.due("count(4) at " + n, x.count(4), lives.size());
        }
    }

    // "is undone: 0 .. 3"
    private static void kinds() {
        WoundTown x = new WoundTown();
        x.person(9, 0);
        x.mend(5);
        x.wind(1);
        x.key(0, 1);
        x.run();
        for (int kind : new int[] {2, 1, 0, 3}) Due.answered(x, "undo()", x.undo(), kind);
    }

    // "OIL, LITTLE, what is DONE, the SPRING, DAY are as they were"
    private static void whatIsAsItWas() {
        Edge.Setting setting = x -> {
            Edge.rich(x);
            x.image(1);
        };
        WoundTown x = new WoundTown();
        setting.of(x);
        x.wind(9);
        x.key(1, 3);
        x.run();
        x.mend(77);
        x.wind(2);
        x.run();
        for (int kind : new int[] {2, 0, 3, 2, 1, 0}) Due.answered(x, "undo()", x.undo(), kind);
        WoundTown y = new WoundTown();
        setting.of(y);
        Due.due("all is as it was", Whole.of(x).equals(Whole.of(y)) ? 1 : 0, 1);
        WoundTown z = new WoundTown();
        Edge.wound(z);
        z.run();
        z.undo();
        Due.due("it is wound as it was", z.count(14), 6);
        Due.answered(z, "run() anew", z.run(), 1);
    }

    /** Where three can be undone: how many can be behind the call. */
    private static void left(String what, Edge.Call call, int answer, int left) {
        WoundTown x = new WoundTown();
        Edge.rich(x);
        Due.due(what, call.on(x), answer);
        Due.due(what + ": count(4)", x.count(4), left);
        if (left == 0) Due.refused(x, what + ": undo()", x.undo(), -3);
        else Due.answered(x, what + ": undo()", x.undo(), left == 3 ? 2 : 3);
    }

    // "nothing that was ahead of a person(), oil(), work(), row(), terms() that was not REFUSED can be undone"
    private static void nothingBehind() {
        left("person()", x -> x.person(0, 0), 2, 0);
        left("oil()", x -> x.oil(0, 2), 2, 0);
        left("work()", x -> x.work(0, 1, 1, 1, -1), 4, 0);
        left("row()", x -> x.row(), 2, 0);
        left("terms() of DAY", x -> x.terms(0, 1), 1, 0);
        left("terms() of SUNDAY", x -> x.terms(1, 8), 8, 0);
        left("terms() of MOOD", x -> x.terms(2, 4), 4, 0);
        left("back()", x -> x.back(0), 0, 0);
        left("mend()", x -> x.mend(1), 994, 4);
        left("road()", x -> x.road(0, 1, 5), 10, 3);
        left("sight()", x -> x.sight(0, 0, 0), 2, 3);
        left("forget()", x -> x.forget(), 1, 3);
        left("force()", x -> x.force(1), 0, 3);
        left("image()", x -> x.image(1), 0, 3);
        left("decade()", x -> x.decade(1, 1) * 0, 0, 3);
        left("feed()", x -> x.feed(0, 0, 0, 0, 0), 28, 3);
        left("law()", x -> Due.law(x, "bars"), 2, 3);
        left("orders() that run none", x -> Due.orders(x, "run if 1 = 2"), 0, 3);
    }

    /** As before, of calls that are REFUSED. */
    private static void refusedKeeps() {
        left("person()", x -> x.person(10, 0), -1, 3);
        left("oil() by -1", x -> x.oil(0, 10), -1, 3);
        left("oil() by -2", x -> x.oil(2, 0), -2, 3);
        left("work() by -1", x -> x.work(0, 0, 1, 1, -1), -1, 3);
        left("work() by -2", x -> x.work(2, 1, 1, 1, -1), -2, 3);
        left("row()", x -> x.end(0) + x.row(), -6, 3);
        left("terms()", x -> x.terms(0, 1000), -1, 3);
        left("back() by -1", x -> x.back(2), -1, 3);
        left("back() by -2", x -> x.back(1), -2, 3);
        left("wind()", x -> x.wind(13), -1, 3);
        left("key()", x -> x.key(0, 0), -1, 3);
        left("run()", x -> x.run(), -3, 3);
        left("mend()", x -> x.mend(0), -1, 3);
        left("orders() by -3", x -> Due.orders(x, "mend 1;run"), -3, 3);
        left("orders() by -6", x -> Due.orders(x, "mend 1;"), -6, 3);
    }

    // "The first of these in that order."
    private static void orderOfRefusals() {
        Edge.refused("wind(): -1 ahead of -3", Edge::wound, x -> x.wind(13), -1);
        Edge.refused("wind(): -1 ahead of -3", BoundsOfDoingsTest::snapped, x -> x.wind(-1), -1);
        Edge.refused("key(): -1 ahead of -2", Edge::rich, x -> x.key(2, 0), -1);
        Edge.refused("key(): -1 ahead of -3", Edge::rich, x -> x.key(1, 10), -1);
        Edge.Setting barred = x -> {
            Edge.rich(x);
            Due.force(x, "bars");
        };
        Edge.refused("key(): -2 ahead of -3", barred, x -> x.key(2, 9), -2);
        Edge.refused("key(): -1 ahead of all", barred, x -> x.key(2, 10), -1);
        Edge.refused("mend(): -1 ahead of -3", Edge::wound, x -> x.mend(0), -1);
        Edge.refused("mend(): -1 ahead of -3", Edge::wound, x -> x.mend(10000), -1);
    }
}
