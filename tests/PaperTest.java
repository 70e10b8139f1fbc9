/** Promises 24 to 31: hour, ends, day, least, orderly, little, lasts, odds. */
public final class PaperTest {
    public static void main(String[] args) {
        hour();
        whateverStands();
        ends();
        stands();
        worth();
        left();
        least();
        orderly();
        orderlyBehindOthers();
        orderlyMany();
        little();
        lasts();
        odds();
        Due.finish();
    }

    private static void hour() {
        WoundTown x = new WoundTown();
        x.person(0, 0);
        x.person(0, 0);
        x.key(1, 9);
        for (int h = 0; h < 24; h++) {
            int power = Math.max(0, 1200 - 60 * h);
            Due.due("power at " + h, x.hour(12, h, 0), power);
            Due.due("speed of 0 at " + h, x.hour(12, h, 1), Math.min(60, power / 10));
            Due.due("speed of 1 at " + h, x.hour(12, h, 2), Math.min(60, power / 10 + 45));
        }
        Due.due("cut", x.hour(1, 1, 1), 4);
        Due.due("no power", x.hour(0, 0, 1), 0);
        Due.due("springs alone", x.hour(0, 23, 2), 45);
        Due.due("hour(13, 0, 0)", x.hour(13, 0, 0), -1);
        Due.due("hour(-1, 0, 0)", x.hour(-1, 0, 0), -1);
        Due.due("hour(0, 24, 0)", x.hour(0, 24, 0), -1);
        Due.due("hour(0, -1, 0)", x.hour(0, -1, 0), -1);
        Due.due("hour(0, 0, 3)", x.hour(0, 0, 3), -1);
        Due.due("hour(0, 0, -1)", x.hour(0, 0, -1), -1);
        Due.due("nothing of it is among what status() tells", x.status(), 0);
    }

    /** On paper it matters neither that the spring has SNAPPED, nor that it is SUNDAY or the last day. */
    private static void whateverStands() {
        WoundTown x = new WoundTown();
        x.person(0, 0);
        x.work(0, 100, 23, 5, -1);
        Due.force(x, "wears 999");
        x.wind(1);
        x.undo();
        x.mend(1);
        x.terms(0, 6);
        x.terms(1, 1);
        x.wind(1);
        x.run();
        x.wind(1);
        Due.due("snapped", x.count(13), 1);
        x.terms(0, 999);
        Due.due("day(12, 1)", x.day(12, 1), 5);
        Due.due("ends(12, 0, 0)", x.ends(12, 0, 0), 1);
        Due.due("nothing is done by it", x.at(0, 5), 14);
        Due.due("nor is it another day", x.count(15), 999);
    }

    private static void ends() {
        WoundTown x = new WoundTown();
        x.person(0, 0);
        x.work(0, 94, 23, 5, -1);
        x.work(0, 1, 23, 5, -1);
        Due.due("ends(5, 0, 0)", x.ends(5, 0, 0), 1);
        Due.due("ends(5, 0, 1)", x.ends(5, 0, 1), 94);
        Due.due("ends(5, 1, 0)", x.ends(5, 1, 0), 2);
        Due.due("ends(4, 0, 0)", x.ends(4, 0, 0), 2);
        Due.due("ends(0, 0, 0)", x.ends(0, 0, 0), -1);
        Due.due("ends(0, 0, 1)", x.ends(0, 0, 1), 0);
        x.wind(3);
        x.run();
        Due.due("ends(0, 0, 1): what was done already", x.ends(0, 0, 1), 90);
        Due.due("ends(1, 0, 0)", x.ends(1, 0, 0), 0);
        x.wind(1);
        x.run();
        Due.due("done already", x.ends(12, 0, 0), -1);
        Due.due("done already", x.ends(12, 0, 1), 94);
        Due.due("ends(5, 2, 0)", x.ends(5, 2, 0), -1);
        Due.due("ends(5, -1, 0)", x.ends(5, -1, 0), -1);
        Due.due("ends(5, 0, 2)", x.ends(5, 0, 2), -1);
        Due.due("ends(5, 0, -1)", x.ends(5, 0, -1), -1);
        Due.due("ends(13, 0, 0)", x.ends(13, 0, 0), -1);
        Due.due("ends(-1, 0, 0)", x.ends(-1, 0, 0), -1);
    }

    private static void stands() {
        WoundTown x = new WoundTown();
        Due.due("a town of nobody stands", x.day(12, 0), 0);
        x.person(0, 0);
        Due.due("day(0, 0)", x.day(0, 0), 0);
        Due.due("day(1, 0)", x.day(1, 0), 2);
        Due.due("day(12, 0)", x.day(12, 0), 20);
        Due.due("day(13, 0)", x.day(13, 0), -1);
        Due.due("day(-1, 0)", x.day(-1, 0), -1);
        Due.due("day(1, 3)", x.day(1, 3), -1);
        Due.due("day(1, -1)", x.day(1, -1), -1);
        Due.force(x, "runs 94");
        Due.due("power 6 is no speed", x.day(1, 0), 1);
        Due.force(x, "runs 0");
        Due.due("not at all", x.day(1, 0), 24);
        Due.force(x, "runs 0;speeds 1 if hour = 3");
        Due.due("from the last speed on", x.day(1, 0), 24);
        Due.force(x, "runs 0;speeds 0;speeds 1 if hour = 3");
        Due.due("from the last speed on", x.day(1, 0), 4);
        Due.force(x, "runs 50;speeds 60");
        Due.due("as told, without power, too", x.day(1, 0), 24);
        Due.force(x, "runs 50;speeds 60 if power > 0");
        Due.due("without power none holds", x.day(1, 0), 2);
        x.force(-1);
        x.person(0, 0);
        x.key(1, 1);
        Due.due("one that goes is enough", x.day(0, 0), 24);
        WoundTown y = new WoundTown();
        y.person(0, 0);
        Due.force(y, "speeds 60;speeds 0 if hour > 6");
        Due.due("as told, by no turns, too", y.day(0, 0), 7);
    }

    private static void worth() {
        WoundTown x = new WoundTown();
        x.person(0, 0);
        x.person(0, 0);
        x.work(0, 50, 0, 3, -1);
        x.work(0, 44, 0, 10, -1);
        x.work(0, 38, 2, 20, -1);
        x.work(1, 50, 23, 40, -1);
        x.work(1, 600, 23, 80, -1);
        Due.due("day(5, 1)", x.day(5, 1), 63);
        Due.due("day(4, 1)", x.day(4, 1), 40);
        Due.due("day(0, 1)", x.day(0, 1), 0);
        x.wind(5);
        x.run();
        Due.due("what is done already does not end", x.day(5, 1), 0);
    }

    private static void left() {
        WoundTown x = new WoundTown();
        x.person(0, 0);
        x.person(0, 0);
        x.work(0, 50, 0, 3, -1);
        x.work(0, 45, 0, 10, -1);
        x.work(0, 38, 2, 20, -1);
        x.work(1, 234, 23, 40, -1);
        x.work(1, 600, 23, 80, -1);
        Due.due("day(5, 2)", x.day(5, 2), 0);
        Due.due("day(4, 2)", x.day(4, 2), 12);
        Due.due("day(1, 2)", x.day(1, 2), 9);
        Due.due("day(0, 2)", x.day(0, 2), 0);
        Due.force(x, "runs 100;speeds 1");
        Due.due("one minute is begun", x.day(1, 2), 9);
        x.force(-1);
        x.wind(1);
        x.run();
        Due.due("what was begun before is begun", x.day(0, 2), 9);
    }

    private static void least() {
        WoundTown x = new WoundTown();
        x.person(0, 0);
        x.person(0, 0);
        x.work(0, 60, 0, 1, -1);
        x.work(0, 34, 1, 1, -1);
        x.work(1, 30, 23, 1, -1);
        x.work(1, 61, 0, 1, -1);
        Due.due("least(0)", x.least(0), 0);
        Due.due("least(1)", x.least(1), 6);
        Due.due("least(2)", x.least(2), 6);
        Due.due("least(4)", x.least(4), 2);
        Due.due("least(7)", x.least(7), 6);
        Due.due("least(8): not by 12", x.least(8), -1);
        Due.force(x, "speeds turns * 5");
        Due.due("least(1): by 12 alone", x.least(1), 12);
        x.force(-1);
        Due.due("least(16): no such", x.least(16), -1);
        Due.due("least(20): no such", x.least(20), -1);
        Due.due("least(-1)", x.least(-1), -1);
        x.wind(2);
        x.run();
        Due.due("least(4): done all", x.least(4), -1);
        Due.due("least(5): one is done all", x.least(5), -1);
        Due.due("least(1)", x.least(1), 2);
        WoundTown y = new WoundTown();
        Due.due("least(1) of none", y.least(1), -1);
        y.person(0, 0);
        y.work(0, 10, 0, 1, -1);
        y.key(0, 2);
        Due.due("least(1) by springs", y.least(1), 0);
    }

    private static void row(WoundTown x, int person, int turns, int worth, int... row) {
        Due.due("orderly(" + person + ", " + turns + ", -1)", x.orderly(person, turns, -1), worth);
        for (int i = 0; i < row.length; i++) {
            Due.due("orderly(" + person + ", " + turns + ", " + i + ")", x.orderly(person, turns, i), row[i]);
        }
        Due.due("behind the last", x.orderly(person, turns, row.length), -1);
    }

    private static void orderly() {
        WoundTown x = new WoundTown();
        Due.due("orderly of nobody", x.orderly(0, 1, -1), -1);
        x.person(0, 0);
        x.person(0, 0);
        row(x, 0, 5, 0);
        x.work(0, 60, 0, 9, -1);
        x.work(1, 60, 23, 9, -1);
        x.work(0, 30, 0, 10, -1);
        x.work(0, 30, 1, 8, -1);
        row(x, 0, 6, 18, 2, 3, 0);
        row(x, 0, 0, 0, 0, 2, 3);
        row(x, 0, 12, 18, 2, 3, 0);
        row(x, 1, 6, 9, 1);
        Due.due("orderly(0, 13, -1)", x.orderly(0, 13, -1), -1);
        Due.due("orderly(0, -1, -1)", x.orderly(0, -1, -1), -1);
        Due.due("orderly(2, 1, -1)", x.orderly(2, 1, -1), -1);
        Due.due("orderly(-1, 1, -1)", x.orderly(-1, 1, -1), -1);
        Due.due("orderly(0, 1, -2)", x.orderly(0, 1, -2), -1);
        x.wind(6);
        x.run();
        row(x, 0, 6, 0);
        x.work(0, 60, 3, 9, -1);
        x.work(0, 60, 3, 9, -1);
        row(x, 0, 6, 18, 4, 5);
    }

    /** What is ahead of one's own as they come, of others as they come by numbers. */
    private static void orderlyBehindOthers() {
        WoundTown x = new WoundTown();
        x.person(0, 0);
        x.person(0, 0);
        Due.force(x, "runs 0;speeds 10");
        x.work(1, 20, 23, 1, -1);
        x.work(1, 10, 23, 1, -1);
        x.work(0, 10, 3, 50, 1);
        x.work(0, 10, 2, 5, -1);
        x.work(0, 10, 4, 7, 2);
        x.work(0, 20, 23, 3, -1);
        // Work 1 ends at 2: work 2 can begin at 3. Until then 3 and 5 fit; 4 comes behind 2.
        row(x, 0, 1, 65, 2, 3, 4, 5);
        WoundTown y = new WoundTown();
        y.person(0, 0);
        y.person(0, 0);
        Due.force(y, "runs 0;speeds 10");
        y.work(0, 10, 23, 1, -1);
        y.work(0, 10, 23, 1, -1);
        y.work(1, 10, 23, 1, 1);
        y.work(0, 10, 2, 9, 2);
        // By numbers work 1 ends at 1, work 2 at 2, whatever the row: work 3 can't end before 3.
        row(y, 0, 1, 2, 0, 1, 3);
        WoundTown z = new WoundTown();
        z.person(0, 0);
        Due.force(z, "runs 0;speeds 1");
        for (int w = 0; w < 5; w++) z.work(0, 2, 2 * ((w * 2 + 3) % 5) + 1, 1 + w, -1);
        // Due in the order 1, 4, 2, 0, 3: only so are all in time.
        row(z, 0, 1, 15, 1, 4, 2, 0, 3);
    }

    private static void orderlyMany() {
        WoundTown x = new WoundTown();
        x.person(0, 0);
        Due.force(x, "runs 0;speeds 10");
        for (int w = 0; w < 6; w++) x.work(0, 10, 5 - w, w + 1, -1);
        row(x, 0, 1, 21, 5, 4, 3, 2, 1, 0);
        x.work(0, 10, 23, 1, -1);
        Due.due("seven: the worth", x.orderly(0, 1, -1), -1);
        Due.due("seven: the first", x.orderly(0, 1, 0), -1);
        Due.force(x, "runs 1000;speeds 10 if power > 0");
        x.wind(1);
        x.run();
        Due.due("six are not done", x.orderly(0, 1, 0), 5);
        Due.due("the worth", x.orderly(0, 1, -1), 6);
    }

    private static void little() {
        WoundTown x = new WoundTown();
        x.person(0, 0);
        x.work(0, 50, 0, 1, -1);
        x.work(0, 60, 1, 1, -1);
        x.work(0, 600, 23, 1, -1);
        Due.due("little(0, 5)", x.little(0, 5), 0);
        Due.due("little(0, 4)", x.little(0, 4), 2);
        Due.due("little(0, 0)", x.little(0, 0), -1);
        Due.due("little(1, 5): 50, then 44 + 20 are 64", x.little(1, 5), 4);
        Due.due("little(2, 0): 5 an hour by one", x.little(2, 0), 6);
        x.key(0, 2);
        Due.due("little(0, 4)", x.little(0, 4), 0);
        Due.due("little(0, 1): 9 in all are not enough for 60", x.little(1, 0), -1);
        Due.due("little(2, 0): so many more", x.little(2, 0), 4);
        Due.force(x, "bars");
        Due.due("bars do not matter on paper", x.little(2, 0), 4);
        x.force(-1);
        x.key(0, 7);
        Due.due("9 already", x.little(0, 0), -1);
        Due.due("9 already, and enough", x.little(0, 1), 0);
        Due.due("nothing is wound by it", x.of(0, 2), 9);
        Due.due("little(3, 1)", x.little(3, 1), -1);
        Due.due("little(-1, 1)", x.little(-1, 1), -1);
        Due.due("little(0, 13)", x.little(0, 13), -1);
        Due.due("little(0, -1)", x.little(0, -1), -1);
        x.wind(5);
        x.run();
        Due.due("done all", x.little(0, 12), -1);
    }

    private static void lasts() {
        WoundTown x = new WoundTown();
        Due.due("lasts(0)", x.lasts(0), -1);
        Due.due("lasts(1): 999", x.lasts(1), -1);
        Due.due("lasts(2)", x.lasts(2), 249);
        Due.due("lasts(12)", x.lasts(12), 6);
        Due.due("lasts(13)", x.lasts(13), -1);
        Due.due("lasts(-1)", x.lasts(-1), -1);
        x.wind(1);
        Due.due("lasts(1) of 999: 998", x.lasts(1), 998);
        x.undo();
        Due.force(x, "wears 500 if life = 1000;wears 100 if life < 1000");
        Due.due("by what life is left", x.lasts(3), 5);
        Due.force(x, "wears 0;wears 999 if day > 7");
        x.terms(0, 2);
        Due.due("by days", x.lasts(3), 7);
        Due.due("the day itself stands", x.count(15), 2);
        Due.force(x, "wears 999;wears 1000 if life < 1000");
        x.mend(1);
        x.wind(1);
        x.run();
        x.wind(1);
        Due.due("snapped", x.count(13), 1);
        Due.due("lasts(0) of a snapped spring", x.lasts(0), 0);
        Due.due("lasts(13) of a snapped spring", x.lasts(13), -1);
    }

    private static void odds() {
        WoundTown x = new WoundTown();
        long all = 1000000000000L;
        Due.due("odds(12, 0)", x.odds(12, 0), all);
        Due.due("odds(9, 60)", x.odds(9, 60), all);
        Due.due("odds(10, 1)", x.odds(10, 1), all / 10 * 9);
        Due.due("odds(12, 2)", x.odds(12, 2), all / 100 * 49);
        long left = all;
        for (int day = 0; day < 60; day++) left -= left * 30 / 100;
        Due.due("odds(12, 60): what goes is cut", x.odds(12, 60), left);
        Due.due("odds(12, 61)", x.odds(12, 61), -1);
        Due.due("odds(12, -1)", x.odds(12, -1), -1);
        Due.due("odds(13, 1)", x.odds(13, 1), -1);
        Due.due("odds(-1, 1)", x.odds(-1, 1), -1);
        Due.force(x, "wears 400;snaps 10 if life = 1000;snaps 50 if life = 600;snaps 25 if life = 0");
        Due.due("by what life is left, 0 at least", x.odds(1, 5), all / 10 * 9 / 2 / 4 * 3 / 4 * 3);
        Due.force(x, "snaps 50 if day = 4");
        x.terms(0, 2);
        Due.due("days go on", x.odds(1, 2), all);
        Due.due("days go on", x.odds(1, 3), all / 2);
        Due.force(x, "snaps 100");
        Due.due("odds(1, 1)", x.odds(1, 1), 0);
    }
}
