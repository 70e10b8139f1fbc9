/**
 * The boundaries that Terms III names for what is asked on paper (promises 24 to 37), each sentence (told above its
 * test) on the boundary and beyond it; what is asked leaves all as it was.
 */
public final class BoundsOfPaperTest {
    private static final int LOW = Integer.MIN_VALUE;
    private static final int HIGH = Integer.MAX_VALUE;
    private static final int[] NO_TURNS = {LOW, -1, 13, HIGH};
    private static final long ALL = 1000000000000L;

    public static void main(String[] args) {
        whatever();
        hourOfDay();
        endsOfWork();
        doneAlready();
        standsFromTheFirst();
        notAtAll();
        worthNoLater();
        leftInTheMiddle();
        leastOfTwelve();
        leastOfNoSuch();
        leastOfDone();
        aboveSix();
        orderlyOfAll();
        firstRow();
        ownAhead();
        othersAhead();
        leastKey();
        nineInAll();
        lifeLasts();
        lastsOfSnapped();
        chances();
        chancesCut();
        chancesByLife();
        sightsAtMost();
        sightOfHour();
        sightOfMinutes();
        forgotten();
        turnsThatFit();
        guards();
        lowestGuards();
        roundOfPlaces();
        roundThatCanNotBe();
        firstRound();
        game();
        Due.finish();
    }

    private static WoundTown town(int people) {
        WoundTown x = new WoundTown();
        for (int p = 0; p < people; p++) x.person(9, 0);
        return x;
    }

    // "as if it were WOUND by so many TURNS, whatever LIFE, SNAPPED, SUNDAY, TURNS are"
    private static void whatever() {
        Edge.Setting[] settings = {
            x -> { },
            x -> x.wind(3),
            x -> x.mend(8999),
            x -> x.terms(1, 1),
            x -> {
                Due.force(x, "wears 999");
                x.mend(999);
                x.wind(1);
                x.run();
                x.wind(1);
                x.wind(1);
                x.terms(0, 6);
                x.force(-1);
            },
            x -> x.terms(0, 999),
        };
        for (int s = 0; s < settings.length; s++) {
            WoundTown x = town(1);
            settings[s].of(x);
            x.work(0, 100, 1, 5, -1);
            Due.due(s + ": hour(12, 2, 0)", x.hour(12, 2, 0), 1080);
            Due.due(s + ": ends(12, 0, 0)", x.ends(12, 0, 0), 1);
            Due.due(s + ": day(12, 0)", x.day(12, 0), 20);
            Due.due(s + ": day(12, 1)", x.day(12, 1), 5);
            Due.due(s + ": least(1)", x.least(1), 6);
            Due.due(s + ": orderly(0, 12, -1)", x.orderly(0, 12, -1), 5);
            Due.due(s + ": little(0, 5)", x.little(0, 5), 1);
            Due.due(s + ": fits()", x.fits(), 8191);
            Due.due(s + ": odds(11, 1)", x.odds(11, 1), ALL / 10 * 8);
        }
    }

    // "A day by TURNS, HOUR 0 .. 23: POWER at its beginning (what 0), how much a PERSON SPEEDS (1 + PERSON). NONE."
    private static void hourOfDay() {
        Edge.asked("hour(0, 0, 0)", Edge::rich, x -> x.hour(0, 0, 0), 0);
        Edge.asked("hour(12, 23, 0)", Edge::rich, x -> x.hour(12, 23, 0), 1200 - 23 * 50);
        Edge.asked("hour(12, 23, 2)", Edge::rich, x -> x.hour(12, 23, 2), 5);
        for (int turns : NO_TURNS) Edge.none("hour(" + turns + ", 0, 0)", Edge::rich, x -> x.hour(turns, 0, 0));
        for (int hour : new int[] {LOW, -1, 24, HIGH}) {
            Edge.none("hour(5, " + hour + ", 0)", Edge::rich, x -> x.hour(5, hour, 0));
            Edge.none("hour(5, " + hour + ", 1)", Edge::rich, x -> x.hour(5, hour, 1));
        }
        for (int what : new int[] {LOW, -1, 3, 7, HIGH}) {
            Edge.none("hour(5, 0, " + what + ")", Edge::rich, x -> x.hour(5, 0, what));
        }
        WoundTown six = town(6);
        Due.due("the sixth person", six.hour(6, 0, 6), 60);
        Due.due("the seventh", six.hour(6, 0, 7), -1);
        Due.due("of a town of nobody", new WoundTown().hour(6, 0, 1), -1);
    }

    // "Of a WORK by a day of TURNS in which HOUR it ENDS (what 0; ..), how much is DONE in the end (1). NONE."
    private static void endsOfWork() {
        for (int turns : NO_TURNS) Edge.none("ends(" + turns + ", 2, 0)", Edge::rich, x -> x.ends(turns, 2, 0));
        for (int work : new int[] {LOW, -1, 4, 10, HIGH}) {
            Edge.none("ends(5, " + work + ", 0)", Edge::rich, x -> x.ends(5, work, 0));
            Edge.none("ends(5, " + work + ", 1)", Edge::rich, x -> x.ends(5, work, 1));
        }
        for (int what : new int[] {LOW, -1, 2, HIGH}) {
            Edge.none("ends(5, 0, " + what + ")", Edge::rich, x -> x.ends(5, 0, what));
        }
        WoundTown x = town(1);
        x.work(0, 24, 23, 1, -1);
        Due.force(x, "speeds 1");
        Due.due("in hour 23", x.ends(0, 0, 0), 23);
        Due.due("all is done", x.ends(0, 0, 1), 24);
        Due.force(x, "speeds 1 if hour < 23");
        Due.due("not", x.ends(0, 0, 0), -1);
        Due.due("one is left", x.ends(0, 0, 1), 23);
        Due.force(x, "speeds 60");
        Due.due("in hour 0", x.ends(0, 0, 0), 0);
        Due.force(x, "speeds 0");
        Due.due("not", x.ends(12, 0, 0), -1);
        Due.due("nothing is done", x.ends(12, 0, 1), 0);
    }

    // "NONE: not, DONE already"
    private static void doneAlready() {
        Edge.none("ends(12, 0, 0)", Edge::rich, x -> x.ends(12, 0, 0));
        Edge.asked("ends(12, 0, 1)", Edge::rich, x -> x.ends(12, 0, 1), 100);
        Edge.none("ends(0, 1, 0)", Edge::rich, x -> x.ends(0, 1, 0));
        Edge.asked("ends(0, 1, 1)", Edge::rich, x -> x.ends(0, 1, 1), 80);
    }

    // "All STANDS from the first HOUR on from which nobody SPEEDS any more."
    private static void standsFromTheFirst() {
        WoundTown x = town(2);
        for (int hour = 0; hour < 24; hour++) {
            Due.force(x, "speeds 0; speeds 1 if hour = " + hour + " and person = " + hour % 2);
            Due.due("last in hour " + hour, x.day(5, 0), hour + 1);
            x = town(2);
        }
        Due.force(x, "speeds 0");
        Due.due("from hour 0 on", x.day(12, 0), 0);
        Due.force(x, "speeds 1 if hour = 0 or hour = 9; speeds 0 if hour > 9 or hour > 0 and hour < 9");
        Due.due("between it stood for a while", x.day(12, 0), 10);
        Due.due("of nobody", new WoundTown().day(12, 0), 0);
        for (int turns : NO_TURNS) Edge.none("day(" + turns + ", 0)", Edge::rich, y -> y.day(turns, 0));
        for (int what : new int[] {LOW, -1, 3, HIGH}) {
            Edge.none("day(5, " + what + ")", Edge::rich, y -> y.day(5, what));
        }
    }

    // "24: not"
    private static void notAtAll() {
        WoundTown x = town(1);
        Due.force(x, "speeds 1");
        Due.due("day(0, 0)", x.day(0, 0), 24);
        Due.force(x, "speeds 1 if hour < 23");
        Due.due("but for hour 23", x.day(0, 0), 23);
        x.force(-1);
        x.key(0, 1);
        Due.due("by springs", x.day(0, 0), 24);
    }

    // "the WORTH that ENDS no later than DUE (1)"
    private static void worthNoLater() {
        for (int due = 0; due < 24; due++) {
            WoundTown x = town(1);
            x.work(0, 10, due, 99, -1);
            Due.force(x, "speeds 1");
            Due.due("in hour 9, due " + due, x.day(0, 1), due >= 9 ? 99 : 0);
        }
        WoundTown all = town(6);
        for (int w = 0; w < 10; w++) all.work(w % 5, 1, 23, 99, -1);
        Due.due("all ten", all.day(1, 1), 990);
        Due.due("none", all.day(0, 1), 0);
        Due.due("of nobody", new WoundTown().day(12, 1), 0);
        Due.due("of nobody", new WoundTown().day(12, 2), 0);
        Edge.asked("what is done already does not end", Edge::rich, x -> x.day(0, 1), 7);
    }

    // "LEFT in the middle are WORKS that are begun and not DONE all in the end."
    private static void leftInTheMiddle() {
        int[] want = {0, 1, 1, 1, 1, 0, 32, 32};
        for (int speed = 0; speed < 8; speed++) {
            WoundTown x = town(6);
            for (int w = 0; w < 10; w++) x.work(w == 0 ? 0 : w == 5 ? 0 : 1, w == 0 ? 5 : w == 5 ? 3 : 600, 23, 1, -1);
            Due.force(x, "speeds " + speed + " if hour = 0 and person = 0; speeds 0 if hour > 0 or person > 0;"
                    + "speeds " + Math.max(0, speed - 5) + " if hour = 1 and person = 0");
            Due.due("speed " + speed, x.day(0, 2), want[speed]);
        }
        WoundTown all = town(6);
        for (int w = 0; w < 10; w++) all.work(w % 6, w < 6 ? 24 : 2, 23, 1, -1);
        Due.force(all, "speeds 1");
        Due.due("all end", all.day(0, 2), 0);
        Due.force(all, "speeds 1 if hour < 23");
        Due.due("six lack one minute", all.day(0, 2), 63);
    }

    // "the fewest by which all of them END no later than DUE"; "NONE (not by 12; ..)"
    private static void leastOfTwelve() {
        for (int turns = 0; turns <= 12; turns++) {
            WoundTown x = town(1);
            x.work(0, 10, 0, 1, -1);
            x.work(0, 10, 1, 1, -1);
            Due.force(x, "speeds 10; speeds 9 if turns < " + turns);
            Due.due("least(1) by " + turns, x.least(1), turns);
            Due.due("least(2) by " + turns, x.least(2), turns);
            Due.due("least(3) by " + turns, x.least(3), turns);
            Due.force(x, "speeds 9; speeds 10 if turns = " + turns);
            Due.due("least(3) by " + turns + " alone", x.least(3), turns);
        }
        WoundTown x = town(1);
        x.work(0, 10, 0, 1, -1);
        Due.force(x, "speeds 9");
        Due.due("not by 12", x.least(1), -1);
        x.work(0, 9, 23, 1, -1);
        Due.due("one of two by 0", x.least(2), 0);
        Due.due("not both", x.least(3), -1);
    }

    // "told WORKS (bits, ..). NONE (..; no such WORKS)."
    private static void leastOfNoSuch() {
        for (int works : new int[] {LOW, -1, 16, 20, 1024, HIGH}) {
            Edge.none("least(" + works + ")", Edge::rich, x -> x.least(works));
        }
        Edge.asked("least(0): all of none", Edge::rich, x -> x.least(0), 0);
        WoundTown ten = town(1);
        for (int w = 0; w < 10; w++) ten.work(0, 1, 23, 1, -1);
        Due.due("all ten", ten.least(1023), 6);
        Due.due("an eleventh", ten.least(1024), -1);
        Due.due("below 0", ten.least(-1), -1);
        Due.due("below 0", ten.least(LOW), -1);
        Due.due("beyond all", ten.least(HIGH), -1);
        Due.due("the last", ten.least(512), 6);
        Due.due("the first", ten.least(1), 1);
        Due.due("of none", new WoundTown().least(1), -1);
        Due.due("none of none", new WoundTown().least(0), 0);
    }

    // "none that is DONE all"
    private static void leastOfDone() {
        Edge.none("least(1)", Edge::rich, x -> x.least(1));
        Edge.none("least(5)", Edge::rich, x -> x.least(5));
        Edge.asked("least(4): by springs", Edge::rich, x -> x.least(4), 0);
    }

    // "6 at most that are not DONE"; "NONE (above 6)"
    private static void aboveSix() {
        WoundTown x = town(2);
        Due.force(x, "runs 0; speeds 10; speeds 0 if hour > 9");
        for (int w = 0; w < 6; w++) x.work(0, 10, 23, 1, -1);
        Due.due("six", x.orderly(0, 1, -1), 6);
        Due.due("the last of six", x.orderly(0, 1, 5), 5);
        x.work(1, 10, 23, 1, -1);
        Due.due("six, and one of another", x.orderly(0, 1, -1), 6);
        x.work(0, 10, 23, 1, -1);
        Due.due("seven", x.orderly(0, 1, -1), -1);
        Due.due("the first of seven", x.orderly(0, 1, 0), -1);
        Due.due("of the other", x.orderly(1, 1, -1), 1);
        Due.force(x, "runs 0; speeds 10 if hour = 0; speeds 0 if hour > 0");
        x.wind(1);
        x.run();
        Due.due("six that are not done", x.orderly(0, 1, 0), 1);
        Due.due("the last of them", x.orderly(0, 1, 5), 7);
        Due.due("behind the last", x.orderly(0, 1, 6), -1);
        Due.due("their worth", x.orderly(0, 1, -1), 1);
    }

    // "the WORTH (i NONE), the i-th WORK"
    private static void orderlyOfAll() {
        for (int turns : NO_TURNS) Edge.none("orderly(0, " + turns + ", -1)", Edge::rich, x -> x.orderly(0, turns, -1));
        for (int person : new int[] {LOW, -1, 2, 6, HIGH}) {
            Edge.none("orderly(" + person + ", 5, -1)", Edge::rich, x -> x.orderly(person, 5, -1));
        }
        for (int i : new int[] {LOW, -2, 1, 6, HIGH}) {
            Edge.none("orderly(0, 5, " + i + ")", Edge::rich, x -> x.orderly(0, 5, i));
        }
        Edge.asked("the one that is left", Edge::rich, x -> x.orderly(0, 5, 0), 2);
        Edge.asked("its worth", Edge::rich, x -> x.orderly(0, 5, -1), 7);
        Edge.asked("its worth by 0", Edge::rich, x -> x.orderly(0, 0, -1), 7);
        Edge.asked("one who has no works left", Edge::rich, x -> x.orderly(1, 5, -1), 0);
        Edge.none("the first of none", Edge::rich, x -> x.orderly(1, 5, 0));
    }

    private static void row(WoundTown x, String what, int worth, int... row) {
        Due.due(what, x.orderly(0, 1, -1), worth);
        for (int i = 0; i < row.length; i++) Due.due(what + ": " + i, x.orderly(0, 1, i), row[i]);
        Due.due(what + ": behind the last", x.orderly(0, 1, row.length), -1);
    }

    // "by which the WORTH of those that END no later than DUE is most; the first as a row of WORKS"
    private static void firstRow() {
        WoundTown x = town(1);
        Due.force(x, "speeds 10");
        x.work(0, 10, 1, 5, -1);
        x.work(0, 10, 0, 5, -1);
        row(x, "the other way", 10, 1, 0);
        x.work(0, 10, 2, 5, -1);
        row(x, "the third as it is", 15, 1, 0, 2);
        x.work(0, 240, 23, 99, -1);
        row(x, "one against three", 99, 3, 0, 1, 2);
        WoundTown y = town(1);
        Due.force(y, "speeds 10");
        for (int w = 0; w < 6; w++) y.work(0, 10, 23, 1, -1);
        row(y, "all alike", 6, 0, 1, 2, 3, 4, 5);
        WoundTown z = town(1);
        Due.force(z, "speeds 10");
        for (int w = 0; w < 6; w++) z.work(0, 10, 5 - w, 1, -1);
        row(z, "the last row of all", 6, 5, 4, 3, 2, 1, 0);
        WoundTown late = town(1);
        Due.force(late, "speeds 0");
        for (int w = 0; w < 3; w++) late.work(0, 10, 5, 1, -1);
        row(late, "none in time", 0, 0, 1, 2);
    }

    // "of one's own ones: as they come"
    private static void ownAhead() {
        WoundTown x = town(1);
        Due.force(x, "speeds 10");
        x.work(0, 10, 23, 1, -1);
        x.work(0, 10, 1, 50, 0);
        x.work(0, 10, 0, 9, -1);
        row(x, "0 has to go ahead of 1", 51, 0, 1, 2);
        WoundTown y = town(1);
        Due.force(y, "speeds 10");
        y.work(0, 10, 23, 1, -1);
        y.work(0, 10, 23, 1, 0);
        y.work(0, 10, 0, 9, -1);
        row(y, "what waits lets others go, and comes when it can", 11, 1, 2, 0);
    }

    // "those AHEAD of them of others END as by that day in the order of numbers"
    private static void othersAhead() {
        WoundTown x = town(2);
        Due.force(x, "speeds 10");
        x.work(1, 20, 23, 1, -1);
        x.work(0, 10, 2, 9, 0);
        x.work(0, 30, 23, 1, -1);
        row(x, "0 ends at 1: 1 can begin at 2", 10, 1, 2);
        WoundTown tight = town(2);
        Due.force(tight, "speeds 10");
        tight.work(1, 20, 23, 1, -1);
        tight.work(0, 10, 1, 9, 0);
        row(tight, "nor can it END at 1", 0, 1);
        Due.force(x, "speeds 10 if person = 0; speeds 0 if person = 1");
        row(x, "0 does not end", 1, 1, 2);
        WoundTown y = town(2);
        Due.force(y, "speeds 10");
        y.work(0, 20, 23, 1, -1);
        y.work(0, 10, 0, 1, -1);
        y.work(1, 10, 23, 1, 1);
        y.work(0, 10, 2, 9, 2);
        row(y, "by numbers 1 ends at 2, 2 at 3, whatever the row", 2, 1, 0, 3);
    }

    // "the fewest turns more of LITTLE for the PERSON of a WORK by which it ENDS no later than DUE"; "NONE (not so; ..)"
    private static void leastKey() {
        for (int need = 0; need <= 9; need++) {
            WoundTown x = town(2);
            x.work(1, 5 * need + 5, 0, 1, -1);
            Due.force(x, "speeds 5 + 5 * little");
            Due.due("needs " + need, x.little(0, 0), need);
            Due.due("nothing is wound by it", x.of(1, 2), 0);
        }
        WoundTown x = town(1);
        x.work(0, 46, 0, 1, -1);
        Due.due("not so", x.little(0, 0), -1);
        x.work(0, 1, 1, 1, -1);
        Due.due("the one before takes an hour by 9 and a bit", x.little(1, 0), -1);
        for (int work : new int[] {LOW, -1, 4, 10, HIGH}) {
            Edge.none("little(" + work + ", 5)", Edge::rich, y -> y.little(work, 5));
        }
        for (int turns : NO_TURNS) Edge.none("little(2, " + turns + ")", Edge::rich, y -> y.little(2, turns));
        Edge.none("little(0, 12): done all", Edge::rich, y -> y.little(0, 12));
        Edge.asked("little(2, 0)", Edge::rich, y -> y.little(2, 0), 0);
    }

    // "0 .. 9 in all"
    private static void nineInAll() {
        for (int had = 0; had <= 9; had++) {
            WoundTown x = town(1);
            x.work(0, 45, 0, 1, -1);
            x.work(0, 46, 23, 1, -1);
            x.work(0, 46, 0, 1, -1);
            if (had > 0) x.key(0, had);
            Due.due("9 in all, " + had + " already", x.little(0, 0), 9 - had);
            Due.due("10 would be too many, " + had + " already", x.little(2, 0), -1);
        }
    }

    // "how many days in a row it can be WOUND by so many TURNS till it has SNAPPED"; "NONE (999 and more; ..)"
    private static void lifeLasts() {
        WoundTown x = new WoundTown();
        Due.due("1 of 1,000: 999 days", x.lasts(1), -1);
        Due.force(x, "wears 1; wears 2 if life = 1000");
        Due.due("998 days", x.lasts(5), 998);
        x.mend(1);
        Due.due("1,000 days", x.lasts(5), -1);
        Due.force(x, "wears 0");
        Due.due("for ever", x.lasts(12), -1);
        Due.force(x, "wears 999");
        Due.due("1,001, 2, 0", x.lasts(0), 1);
        Due.force(x, "wears 501");
        Due.due("1,001, 500, 0", x.lasts(0), 1);
        Due.force(x, "wears 500");
        Due.due("1,001, 501, 1, 0", x.lasts(0), 2);
        x.mend(8998);
        Due.due("9,999 by 500", x.lasts(0), 19);
        WoundTown y = new WoundTown();
        Due.force(y, "wears 999");
        y.wind(1);
        y.run();
        Due.due("1 by 999: none at all", y.lasts(1), 0);
        for (int turns : NO_TURNS) Edge.none("lasts(" + turns + ")", Edge::rich, z -> z.lasts(turns));
        Edge.asked("lasts(12)", Edge::rich, z -> z.lasts(12), 993 / 13);
    }

    // "it has SNAPPED: 0"
    private static void lastsOfSnapped() {
        Edge.Setting snapped = x -> {
            Edge.rich(x);
            Due.force(x, "wears 993; wears 0 if life = 0");
            x.wind(1);
        };
        Edge.asked("lasts(1)", snapped, x -> x.lasts(1), 0);
        Edge.asked("lasts(12)", snapped, x -> x.lasts(12), 0);
        Edge.none("lasts(13)", snapped, x -> x.lasts(13));
        Edge.Setting mended = x -> {
            snapped.of(x);
            x.mend(1);
            x.force(-1);
        };
        Edge.asked("lasts(0) of one that was mended", mended, x -> x.lasts(0), -1);
    }

    // "CHANCES .. for n days 0 .. 60. NONE."
    private static void chances() {
        Edge.asked("odds(12, 0)", Edge::rich, x -> x.odds(12, 0), ALL);
        Edge.asked("odds(12, 1)", Edge::rich, x -> x.odds(12, 1), ALL / 100 * 88);
        Edge.asked("odds(0, 60)", Edge::rich, x -> x.odds(0, 60), ALL);
        for (int n : new int[] {LOW, -1, 61, HIGH}) Edge.none("odds(12, " + n + ")", Edge::rich, x -> x.odds(12, n));
        for (int turns : NO_TURNS) Edge.none("odds(" + turns + ", 5)", Edge::rich, x -> x.odds(turns, 5));
        WoundTown x = new WoundTown();
        Due.force(x, "snaps 100");
        Due.due("all go on the first day", x.odds(0, 1), 0);
        Due.due("none are left to go", x.odds(0, 60), 0);
        Due.due("none has gone yet", x.odds(0, 0), ALL);
        Due.force(x, "snaps 99");
        Due.due("one of a hundred stays", x.odds(0, 1), ALL / 100);
        Due.due("one of 10,000 stays", x.odds(0, 2), ALL / 10000);
        Due.due("one of all stays", x.odds(0, 6), 1);
        Due.due("of one none goes: cut", x.odds(0, 7), 1);
        Due.due("of one none goes: cut", x.odds(0, 60), 1);
    }

    // "each day as many of a hundred go as it SNAPS with (cut; .."
    private static void chancesCut() {
        for (int snaps : new int[] {1, 3, 7, 33, 50, 77, 98}) {
            WoundTown x = new WoundTown();
            Due.force(x, "snaps " + snaps);
            long left = ALL;
            for (int n = 0; n <= 60; n++) {
                Due.due("snaps " + snaps + ": odds(1, " + n + ")", x.odds(1, n), left);
                left -= left * snaps / 100;
            }
        }
    }

    // "LIFE less day by day by what it WEARS, 0 at least; DAY goes on"
    private static void chancesByLife() {
        WoundTown x = new WoundTown();
        Due.force(x, "wears 400; snaps 10 if life = 1000; snaps 20 if life = 600; snaps 30 if life = 200;"
                + "snaps 40 if life = 0; snaps 100 if life < 0");
        long[] left = {ALL, ALL / 10 * 9, ALL / 100 * 72, ALL / 1000 * 504, ALL / 10000 * 3024, ALL / 100000 * 18144};
        for (int n = 0; n < left.length; n++) Due.due("odds(1, " + n + ")", x.odds(1, n), left[n]);
        WoundTown y = new WoundTown();
        y.terms(0, 5);
        Due.force(y, "snaps 50 if day = 6; snaps 10 if day = 5; snaps 0 if day > 6");
        Due.due("day 5", y.odds(1, 1), ALL / 10 * 9);
        Due.due("day 6", y.odds(1, 2), ALL / 100 * 45);
        Due.due("day 7", y.odds(1, 3), ALL / 100 * 45);
        Due.due("the day itself stays", y.count(15), 5);
    }

    private static void eightSights(WoundTown x) {
        Edge.rich(x);
        for (int n = 2; n < 9; n++) x.sight(0, n, n);
    }

    // "SIGHTS, 8 at most"; "how many there are"
    private static void sightsAtMost() {
        WoundTown x = town(1);
        x.work(0, 10, 0, 1, -1);
        for (int n = 1; n <= 8; n++) Due.answered(x, "sight " + n, x.sight(0, 0, 0), n);
        Due.refused(x, "the ninth", x.sight(0, 0, 0), -5);
        Edge.refused("a ninth sight", BoundsOfPaperTest::eightSights, y -> y.sight(0, 0, 0), -5);
        Edge.refused("-1 ahead of -2 and -5", BoundsOfPaperTest::eightSights, y -> y.sight(4, 24, 0), -1);
        Edge.refused("-1 of the minutes ahead of -5", BoundsOfPaperTest::eightSights, y -> y.sight(0, 0, -1), -1);
        Edge.refused("-2 ahead of -5", BoundsOfPaperTest::eightSights, y -> y.sight(4, 0, 0), -2);
        Edge.refused("-1 ahead of -2", Edge::rich, y -> y.sight(4, -1, 0), -1);
        for (int work : new int[] {LOW, -1, 4, 10, HIGH}) {
            Edge.refused("sight(" + work + ", 0, 0)", Edge::rich, y -> y.sight(work, 0, 0), -2);
        }
    }

    // "at the end of an HOUR 0 .. 23"
    private static void sightOfHour() {
        Edge.taken("hour 0", Edge::rich, x -> x.sight(3, 0, 5), 2);
        Edge.taken("hour 23", Edge::rich, x -> x.sight(3, 23, 5), 2);
        for (int hour : new int[] {LOW, -1, 24, HIGH}) {
            Edge.refused("hour " + hour, Edge::rich, x -> x.sight(3, hour, 5), -1);
        }
    }

    // "of a WORK so many minutes are DONE"
    private static void sightOfMinutes() {
        Edge.taken("0 minutes", Edge::rich, x -> x.sight(3, 5, 0), 2);
        Edge.taken("600 minutes", Edge::rich, x -> x.sight(3, 5, 600), 2);
        for (int minutes : new int[] {LOW, -1, 601, HIGH}) {
            Edge.refused(minutes + " minutes", Edge::rich, x -> x.sight(3, 5, minutes), -1);
        }
    }

    // "SIGHTS are none then: how many there were."
    private static void forgotten() {
        WoundTown x = new WoundTown();
        Due.due("none of none", x.forget(), 0);
        eightSights(x);
        Due.due("eight", x.forget(), 8);
        Due.due("none", x.forget(), 0);
        Due.due("all fit", x.fits(), 8191);
        Due.answered(x, "one anew", x.sight(0, 0, 1), 1);
    }

    // "TURNS FIT, if by these all SIGHTS are so."
    private static void turnsThatFit() {
        Due.due("without sights", new WoundTown().fits(), 8191);
        for (int turns = 0; turns <= 12; turns++) {
            WoundTown x = town(1);
            x.work(0, 600, 23, 1, -1);
            Due.force(x, "speeds turns");
            x.sight(0, 0, turns);
            Due.due("at the end of hour 0 by " + turns, x.fits(), 1 << turns);
            x.sight(0, 23, 24 * turns);
            Due.due("at the end of hour 23, too", x.fits(), 1 << turns);
            x.sight(0, 11, 12 * turns + 1);
            Due.due("one minute too many", x.fits(), 0);
        }
        WoundTown y = town(1);
        y.work(0, 10, 23, 1, -1);
        y.sight(0, 23, 10);
        Due.due("done all by the end", y.fits(), 8190);
        y.sight(0, 0, 10);
        Due.due("done all by the end of the first", y.fits(), 8190);
        y.sight(0, 0, 600);
        Due.due("more than there is", y.fits(), 0);
    }

    // "the fewest PLACES so that each ROAD has one at an end"; "how many (what 0), where, as bits (1). NONE."
    private static void guards() {
        WoundTown x = new WoundTown();
        Due.due("without roads", x.guards(0), 0);
        Due.due("without roads", x.guards(1), 0);
        for (int a = 0; a < 8; a++) {
            for (int b = 0; b < a; b++) {
                x.road(a, b, 1);
                Due.due("one road " + a + ", " + b, x.guards(0), 1);
                Due.due("one road " + a + ", " + b, x.guards(1), 1 << b);
                x.road(a, b, 0);
            }
        }
        for (int what : new int[] {LOW, -1, 2, HIGH}) Edge.none("guards(" + what + ")", Edge::rich, y -> y.guards(what));
        for (int a = 0; a < 8; a++) {
            for (int b = 0; b < a; b++) x.road(a, b, 99);
        }
        Due.due("all roads", x.guards(0), 7);
        Due.due("all roads", x.guards(1), 127);
    }

    // "the lowest as bits"
    private static void lowestGuards() {
        WoundTown x = new WoundTown();
        x.road(0, 1, 1);
        x.road(1, 2, 1);
        x.road(2, 3, 1);
        Due.due("a row of four: 0 and 2 ahead of 1 and 2, 1 and 3", x.guards(1), 5);
        x.road(0, 3, 1);
        Due.due("a ring of four", x.guards(1), 5);
        x.road(4, 7, 1);
        x.road(7, 5, 1);
        Due.due("one for two", x.guards(1), 5 + 128);
        Due.due("three", x.guards(0), 3);
        x.road(6, 7, 1);
        x.road(6, 5, 1);
        Due.due("5 and 7 ahead of 6 and 7", x.guards(1), 5 + 32 + 128);
        WoundTown y = new WoundTown();
        for (int a = 4; a < 8; a++) {
            for (int b = 0; b < 3; b++) y.road(a, b, 1);
        }
        Due.due("three of three and four", y.guards(1), 7);
    }

    // "A ROUND by told PLACES (bits): minutes (i NONE), the i-th of those told."
    private static void roundOfPlaces() {
        Edge.asked("round(6, -1)", Edge::rich, x -> x.round(6, -1), 60);
        Edge.asked("round(6, 0)", Edge::rich, x -> x.round(6, 0), 1);
        Edge.asked("round(6, 1)", Edge::rich, x -> x.round(6, 1), 2);
        for (int i : new int[] {LOW, -2, 2, 8, HIGH}) Edge.none("round(6, " + i + ")", Edge::rich, x -> x.round(6, i));
        for (int places : new int[] {LOW, -1, 256, 258, HIGH}) {
            Edge.none("round(" + places + ", -1)", Edge::rich, x -> x.round(places, -1));
            Edge.none("round(" + places + ", 0)", Edge::rich, x -> x.round(places, 0));
        }
        Edge.asked("by none", Edge::rich, x -> x.round(0, -1), 0);
        Edge.none("the first of none", Edge::rich, x -> x.round(0, 0));
        Edge.asked("by 0 alone", Edge::rich, x -> x.round(1, -1), 0);
        Edge.asked("0 of 0 alone", Edge::rich, x -> x.round(1, 0), 0);
        WoundTown x = new WoundTown();
        for (int p = 0; p < 7; p++) x.road(p, p + 1, 99);
        Due.due("the farthest", x.round(128, -1), 14 * 99);
        Due.due("by all", x.round(255, -1), 14 * 99);
        for (int i = 0; i < 8; i++) Due.due("by all: " + i, x.round(255, i), i);
        Due.due("by all: 8", x.round(255, 8), -1);
        for (int i = 0; i < 7; i++) Due.due("by all but 0: " + i, x.round(254, i), i + 1);
        Due.due("by all but 0: 7", x.round(254, 7), -1);
    }

    // "NONE (it can't be)"
    private static void roundThatCanNotBe() {
        Edge.none("round(8, -1)", Edge::rich, x -> x.round(8, -1));
        Edge.none("round(8, 0)", Edge::rich, x -> x.round(8, 0));
        Edge.none("round(10, 0)", Edge::rich, x -> x.round(10, 0));
        Edge.none("round(160, -1): a road of which no way leads to 0", Edge::rich, x -> x.round(160, -1));
        for (int p = 1; p < 8; p++) {
            WoundTown x = new WoundTown();
            int bit = 1 << p;
            Due.due("without roads", x.round(bit, -1), -1);
            x.road(0, p, 99);
            Due.due("there and back", x.round(bit, -1), 198);
            x.road(0, p, 0);
            Due.due("none again", x.round(bit, -1), -1);
        }
    }

    // "in the fewest minutes, by ROADS; the first as an order of those told"
    private static void firstRound() {
        WoundTown x = new WoundTown();
        x.road(0, 1, 10);
        x.road(0, 2, 10);
        x.road(1, 2, 19);
        Due.due("by the ring", x.round(6, -1), 39);
        Due.due("either way round: 1 first", x.round(6, 0), 1);
        x.road(1, 2, 20);
        Due.due("by 0 or by the ring", x.round(6, -1), 40);
        x.road(1, 2, 21);
        Due.due("by 0", x.round(6, -1), 40);
        Due.due("1 first", x.round(6, 0), 1);
        x.road(0, 1, 0);
        x.road(2, 1, 5);
        Due.due("by 2 there and back", x.round(2, -1), 30);
        Due.due("of 1 and 2 there and back", x.round(6, -1), 30);
        Due.due("1 is the first as an order: 2 on the way back", x.round(6, 0), 1);
        WoundTown y = new WoundTown();
        int[] ring = {0, 7, 3, 5, 1};
        for (int i = 0; i < 5; i++) y.road(ring[i], ring[(i + 1) % 5], 2);
        int told = 1 << 7 | 1 << 3 | 1 << 5 | 1 << 1;
        Due.due("a ring of five", y.round(told, -1), 10);
        int[] want = {1, 5, 3, 7};
        for (int i = 0; i < 4; i++) Due.due("from its lower end: " + i, y.round(told, i), want[i]);
    }

    // "two winders by turns wind 1 .. 3 TURNS, from n on; who winds beyond 12 has lost"; "by how many TURNS (the lowest)"
    private static void game() {
        boolean[] wins = new boolean[16];
        java.util.Arrays.fill(wins, 13, 16, true);
        for (int n = 12; n >= 0; n--) {
            int by = 0;
            for (int turns = 3; turns >= 1; turns--) if (n + turns <= 12 && !wins[n + turns]) by = turns;
            wins[n] = by > 0;
            Due.due("game(" + n + ")", new WoundTown().game(n), by);
        }
        for (int n : new int[] {LOW, -1, 13, HIGH}) Edge.none("game(" + n + ")", Edge::rich, x -> x.game(n));
        Edge.asked("game(0)", Edge::rich, x -> x.game(0), 0);
        Edge.asked("game(12)", Edge::rich, x -> x.game(12), 0);
        Edge.asked("game(9)", Edge::rich, x -> x.game(9), 3);
    }
}
