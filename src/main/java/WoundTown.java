import java.util.Arrays;

/**
 * A town that is wound up each morning and goes till it runs down.
 * What each call does and answers is told in ../shared/DOC.md; the words in capitals are explained there.
 */
public final class WoundTown {
    /** There is none. */
    public static final int NONE = -1;

    private static final int PLACES = 8;
    private static final int PEOPLE = 6;
    private static final int WORKS = 10;
    private static final int SIGHTS = 8;
    private static final int LAWS = 6;
    private static final int IMAGES = 2;
    private static final int HOURS = 24;

    private static final int MOST_ROAD = 99;
    private static final int MOST_OIL = 9;
    private static final int MOST_LITTLE = 9;
    private static final int MOST_MINUTES = 600;
    private static final int MOST_WORTH = 99;
    private static final int MOST_TURNS = 12;
    private static final int MOST_LIFE = 9999;
    private static final int LAST_DAY = 999;
    private static final int MOST_SUNDAY = 9;
    private static final int MOST_MOOD = 9;
    private static final int MOST_SEED = 1000000;
    private static final int MOST_DAYS = 60;
    private static final int MOST_GAME_TURNS = 3;
    private static final long ALL_CHANCES = 1000000000000L;

    private static final int BAD_NUMBER = -1;
    private static final int NO_SUCH = -2;
    private static final int CANNOT_BE = -3;
    private static final int NO_ROOM = -5;
    private static final int BAD_TEXT = -6;

    /** The doings of the town, numbered as undo() answers them and as the clauses of ORDERS come in the Reader. */
    private static final int WIND = 0;
    private static final int KEY = 1;
    private static final int RUN = 2;
    private static final int MEND = 3;

    private static final int TERM_DAY = 0;
    private static final int TERM_SUNDAY = 1;
    private static final int TERM_MOOD = 2;

    /** No SUM can come to this: they end at a thousand millions either way. */
    private static final long BROKEN = -9000000000L;

    private final Town town = new Town();
    private final Town[] images = new Town[IMAGES];
    private final Undo undo = new Undo();
    private final Rules rules = new Rules();
    private final Day day = new Day(rules, town);
    private final Orderly orderly = new Orderly();
    private final Places ways = new Places();
    private final Decade decade = new Decade();
    private final Tape tape = new Tape();
    private final Reader reader = new Reader(tape);

    /** What ORDERS that can't be are put back to. */
    private final Going goingBefore = new Going();
    private final Undo undoBefore = new Undo();
    private final int[] orderWords = new int[Reader.ORDER_VALUES];
    private int ordersDone;
    private int ordersEnded = NONE;
    private int stopped = NONE;

    /** A going that is tried on paper. */
    private final Going trial = new Going();

    private int dust;
    private int status;
    private final int[] refusals = new int[5];

    public WoundTown() {
    }

    // ------------------------------------------------------------------ the town

    public int road(int one, int other, int minutes) {
        if (!isWithin(one, 0, PLACES - 1) || !isWithin(other, 0, PLACES - 1) || one == other
                || !isWithin(minutes, 0, MOST_ROAD)) {
            return refused(BAD_NUMBER);
        }
        int before = town.roads[one * PLACES + other];
        town.roads[one * PLACES + other] = minutes;
        town.roads[other * PLACES + one] = minutes;
        return answered(before);
    }

    public int person(int oil, int place) {
        if (!isWithin(oil, 0, MOST_OIL) || !isWithin(place, 0, PLACES - 1)) {
            return refused(BAD_NUMBER);
        }
        if (town.people >= PEOPLE) {
            return refused(NO_ROOM);
        }
        undo.clear();
        return answered(town.addPerson(oil, place));
    }

    public int oil(int person, int value) {
        if (!isWithin(value, 0, MOST_OIL)) {
            return refused(BAD_NUMBER);
        }
        if (!town.hasPerson(person)) {
            return refused(NO_SUCH);
        }
        int before = town.going.oil[person];
        town.going.oil[person] = value;
        undo.clear();
        return answered(before);
    }

    public int of(int person, int what) {
        if (!town.hasPerson(person)) {
            return NONE;
        }
        switch (what) {
            case 0: return town.going.oil[person];
            case 1: return town.place[person];
            case 2: return town.going.little[person];
            case 3: return town.worksLeft(person);
            default: return NONE;
        }
    }

    public int work(int person, int minutes, int due, int worth, int ahead) {
        if (!isWithin(minutes, 1, MOST_MINUTES) || !isWithin(due, 0, HOURS - 1)
                || !isWithin(worth, 1, MOST_WORTH)) {
            return refused(BAD_NUMBER);
        }
        if (!town.hasPerson(person) || (ahead != NONE && !town.hasWork(ahead))) {
            return refused(NO_SUCH);
        }
        if (town.works >= WORKS) {
            return refused(NO_ROOM);
        }
        undo.clear();
        return answered(town.addWork(person, minutes, due, worth, ahead));
    }

    public int at(int work, int what) {
        if (!town.hasWork(work)) {
            return NONE;
        }
        switch (what) {
            case 0: return town.owner[work];
            case 1: return town.minutes[work];
            case 2: return town.due[work];
            case 3: return town.worth[work];
            case 4: return town.ahead[work];
            case 5: return town.going.done[work];
            default: return NONE;
        }
    }

    public int terms(int what, int value) {
        int before;
        if (what == TERM_DAY && isWithin(value, 0, LAST_DAY)) {
            before = town.going.day;
            town.going.day = value;
        } else if (what == TERM_SUNDAY && isWithin(value, 1, MOST_SUNDAY)) {
            before = town.sunday;
            town.sunday = value;
        } else if (what == TERM_MOOD && isWithin(value, 0, MOST_MOOD)) {
            before = town.mood;
            town.mood = value;
        } else {
            return refused(BAD_NUMBER);
        }
        undo.clear();
        return answered(before);
    }

    // ------------------------------------------------------------------ the tape and what it becomes

    public int feed(int a, int b, int c, int d, int e) {
        if (!tape.hasRoomFor(20)) {
            return NONE;
        }
        tape.addNumber(a);
        tape.addNumber(b);
        tape.addNumber(c);
        tape.addNumber(d);
        tape.addNumber(e);
        return tape.length;
    }

    public int end(int n) {
        if (n < 0 || n > tape.length) {
            return NONE;
        }
        tape.length = n;
        return n;
    }

    public int row() {
        if (tape.length == 0) {
            return refused(BAD_TEXT);
        }
        int came = 0;
        dust = 0;
        for (int from = 0; from < tape.length; from += 4) {
            if (addWorkOfRow(from)) {
                came++;
            } else {
                dust++;
            }
        }
        tape.length = 0;
        undo.clear();
        return answered(came);
    }

    /** Where the TAPE ends within the four, a byte is NONE, which no byte of a WORK can be. */
    private boolean addWorkOfRow(int from) {
        int person = tape.byteAt(from);
        int minutes = tape.byteAt(from + 1);
        int due = tape.byteAt(from + 2);
        int worth = tape.byteAt(from + 3);
        if (!town.hasPerson(person) || minutes < 1 || !isWithin(due, 0, HOURS - 1)
                || !isWithin(worth, 1, MOST_WORTH) || town.works >= WORKS) {
            return false;
        }
        town.addWork(person, minutes, due, worth, NONE);
        return true;
    }

    public int dust() {
        return dust;
    }

    public int law() {
        if (town.lawCount >= LAWS) {
            tape.length = 0;
            return refused(NO_ROOM);
        }
        boolean read = reader.read(false);
        tape.length = 0;
        if (!read) {
            return refused(BAD_TEXT);
        }
        town.laws[town.lawCount] = reader.text.copy();
        town.lawCount++;
        return answered(town.lawCount - 1);
    }

    public int orders() {
        boolean read = reader.read(true);
        tape.length = 0;
        stopped = NONE;
        if (!read) {
            return refused(BAD_TEXT);
        }
        goingBefore.copyFrom(town.going);
        undoBefore.copyFrom(undo);
        ordersDone = 0;
        ordersEnded = NONE;
        for (int clause = 0; clause < reader.text.clauses; clause++) {
            if (!isClauseRun(reader.text, clause)) {
                town.going.copyFrom(goingBefore);
                undo.copyFrom(undoBefore);
                stopped = clause;
                return refused(CANNOT_BE);
            }
        }
        return answered(ordersDone);
    }

    /** Answers false, if one of the clause's times could not be. */
    private boolean isClauseRun(Text text, int clause) {
        int kind = text.kinds[clause];
        for (int time = 0; time < text.times[clause]; time++) {
            tellOrderWords();
            if (rules.value(text, text.tests[clause], orderWords) != 1) {
                continue;
            }
            long first = rules.value(text, text.sums[clause], orderWords);
            long second = rules.value(text, text.seconds[clause], orderWords);
            if (first == BROKEN || second == BROKEN) {
                return false;
            }
            int answer = BAD_NUMBER;
            switch (kind) {
                case WIND: answer = windBy((int) first); break;
                case KEY: answer = keyBy((int) first, (int) second); break;
                case RUN: answer = runDay(); break;
                case MEND: answer = mendBy((int) first); break;
                default: break;
            }
            if (answer < 0) {
                return false;
            }
            ordersDone++;
            if (kind == RUN) {
                ordersEnded = answer;
            }
        }
        return true;
    }

    private void tellOrderWords() {
        Going going = town.going;
        orderWords[Reader.ORDER_DAY] = going.day;
        orderWords[Reader.ORDER_TURNS] = going.turns;
        orderWords[Reader.ORDER_LIFE] = going.life;
        orderWords[Reader.ORDER_DONE] = ordersDone;
        orderWords[Reader.ORDER_ENDED] = ordersEnded;
        for (int person = 0; person < PEOPLE; person++) {
            orderWords[Reader.ORDER_LITTLE + person] = town.hasPerson(person) ? going.little[person] : NONE;
        }
        for (int work = 0; work < WORKS; work++) {
            orderWords[Reader.ORDER_LEFT + work]
                    = town.hasWork(work) ? town.minutes[work] - going.done[work] : NONE;
        }
    }

    public int fault() {
        return reader.fault;
    }

    public int stopped() {
        return stopped;
    }

    public int force(int law) {
        if (law != NONE && !isWithin(law, 0, town.lawCount - 1)) {
            return refused(NO_SUCH);
        }
        int before = town.force;
        town.force = law;
        return answered(before);
    }

    public int asks(int turns, int what) {
        if (!areTurns(turns)) {
            return NONE;
        }
        rules.about(town, town.going, turns);
        switch (what) {
            case 0: return rules.wears();
            case 1: return rules.snaps();
            default: return NONE;
        }
    }

    // ------------------------------------------------------------------ the doings

    public int wind(int turns) {
        return settled(windBy(turns));
    }

    private int windBy(int turns) {
        Going going = town.going;
        if (!areTurns(turns)) {
            return BAD_NUMBER;
        }
        if (going.turns != NONE || going.snapped || turns > town.mostTurns(going)) {
            return CANNOT_BE;
        }
        undo.keep(WIND, going);
        rules.about(town, going, turns);
        going.windBy(turns, rules.wears());
        return going.life;
    }

    public int key(int person, int turns) {
        return settled(keyBy(person, turns));
    }

    private int keyBy(int person, int turns) {
        Going going = town.going;
        if (!isWithin(turns, 1, MOST_LITTLE)) {
            return BAD_NUMBER;
        }
        if (!town.hasPerson(person)) {
            return NO_SUCH;
        }
        int little = going.little[person] + turns;
        if (little > MOST_LITTLE) {
            return CANNOT_BE;
        }
        rules.about(town, going, Math.max(0, going.turns));
        if (rules.bars(person, going.oil[person], little)) {
            return CANNOT_BE;
        }
        undo.keep(KEY, going);
        going.little[person] = little;
        return little;
    }

    public int run() {
        return settled(runDay());
    }

    private int runDay() {
        Going going = town.going;
        if (going.turns == NONE || going.day >= LAST_DAY) {
            return CANNOT_BE;
        }
        undo.keep(RUN, going);
        return day.runs(town, going);
    }

    public int mend(int life) {
        return settled(mendBy(life));
    }

    private int mendBy(int life) {
        Going going = town.going;
        if (!isWithin(life, 1, MOST_LIFE)) {
            return BAD_NUMBER;
        }
        if (going.turns != NONE) {
            return CANNOT_BE;
        }
        undo.keep(MEND, going);
        going.life = Math.min(MOST_LIFE, going.life + life);
        going.snapped = false;
        return going.life;
    }

    public int undo() {
        int kind = undo.takeBack(town.going);
        return kind == NONE ? refused(CANNOT_BE) : answered(kind);
    }

    // ------------------------------------------------------------------ on paper

    public int hour(int turns, int hour, int what) {
        if (!areTurns(turns) || !isWithin(hour, 0, HOURS - 1)) {
            return NONE;
        }
        if (what != 0 && !town.hasPerson(what - 1)) {
            return NONE;
        }
        day.begin(town, town.going, turns);
        return what == 0 ? day.power[hour] : day.speed(hour, what - 1);
    }

    public int ends(int turns, int work, int what) {
        if (!areTurns(turns) || !town.hasWork(work) || !isWithin(what, 0, 1)) {
            return NONE;
        }
        day.pass(town, town.going, turns);
        return what == 0 ? day.ends[work] : day.done[work];
    }

    public int day(int turns, int what) {
        if (!areTurns(turns)) {
            return NONE;
        }
        switch (what) {
            case 0:
                day.begin(town, town.going, turns);
                return day.standsFrom();
            case 1:
                day.pass(town, town.going, turns);
                return day.worthInTime();
            case 2:
                day.pass(town, town.going, turns);
                return day.leftInTheMiddle();
            default:
                return NONE;
        }
    }

    public int least(int works) {
        if (works < 0 || works >= 1 << town.works) {
            return NONE;
        }
        // One that is DONE all ENDS by no turns.
        for (int turns = 0; turns <= MOST_TURNS; turns++) {
            day.pass(town, town.going, turns);
            if (day.areInTime(works)) {
                return turns;
            }
        }
        return NONE;
    }

    public int orderly(int person, int turns, int i) {
        if (!town.hasPerson(person) || !areTurns(turns)) {
            return NONE;
        }
        day.pass(town, town.going, turns);
        if (!orderly.isFound(town, day, person)) {
            return NONE;
        }
        if (i == NONE) {
            return orderly.worth;
        }
        return isWithin(i, 0, orderly.size - 1) ? orderly.best[i] : NONE;
    }

    public int little(int work, int turns) {
        if (!town.hasWork(work) || !areTurns(turns) || town.isDone(work)) {
            return NONE;
        }
        int person = town.owner[work];
        if (!town.hasPerson(person)) {
            return NONE;
        }
        trial.copyFrom(town.going);
        int most = MOST_LITTLE - trial.little[person];
        for (int more = 0; more <= most; more++) {
            trial.little[person] = town.going.little[person] + more;
            day.pass(town, trial, turns);
            if (day.isInTime(work)) {
                return more;
            }
        }
        return NONE;
    }

    public int lasts(int turns) {
        if (!areTurns(turns)) {
            return NONE;
        }
        if (town.going.snapped) {
            return 0;
        }
        trial.copyFrom(town.going);
        for (int days = 0; days < 999; days++) {
            rules.about(town, trial, turns);
            trial.wear(rules.wears());
            if (trial.life == 0) {
                return days;
            }
            trial.day++;
        }
        return NONE;
    }

    public long odds(int turns, int n) {
        if (!areTurns(turns) || !isWithin(n, 0, MOST_DAYS)) {
            return NONE;
        }
        long chances = ALL_CHANCES;
        trial.copyFrom(town.going);
        for (int days = 0; days < n; days++) {
            rules.about(town, trial, turns);
            chances -= chances * rules.snaps() / 100;
            trial.wear(rules.wears());
            trial.day++;
        }
        return chances;
    }

    public int sight(int work, int hour, int minutes) {
        if (!isWithin(hour, 0, HOURS - 1) || !isWithin(minutes, 0, MOST_MINUTES)) {
            return refused(BAD_NUMBER);
        }
        if (!town.hasWork(work)) {
            return refused(NO_SUCH);
        }
        if (town.sights >= SIGHTS) {
            return refused(NO_ROOM);
        }
        town.addSight(work, hour, minutes);
        return answered(town.sights);
    }

    public int forget() {
        int before = town.sights;
        town.sights = 0;
        return before;
    }

    public int fits() {
        int bits = 0;
        for (int turns = 0; turns <= MOST_TURNS; turns++) {
            day.begin(town, town.going, turns);
            if (day.areSightsSo()) {
                bits |= 1 << turns;
            }
        }
        return bits;
    }

    public int guards(int what) {
        int bits = ways.fewestGuards(town.roads);
        switch (what) {
            case 0: return Integer.bitCount(bits);
            case 1: return bits;
            default: return NONE;
        }
    }

    public int round(int places, int i) {
        if (!isWithin(places, 0, (1 << PLACES) - 1) || i < NONE || i >= Integer.bitCount(places)) {
            return NONE;
        }
        ways.measure(town.roads, places);
        int minutes = ways.roundOf(places);
        return i == NONE || minutes == NONE ? minutes : ways.stop(places, i);
    }

    public int game(int n) {
        if (!isWithin(n, 0, MOST_TURNS)) {
            return NONE;
        }
        // Who begins with a multiple of four to go loses: the other one winds what is left of each four.
        return (MOST_TURNS - n) % (MOST_GAME_TURNS + 1);
    }

    public int decade(int seed, int n) {
        if (!isWithin(seed, 0, MOST_SEED) || !isWithin(n, 1, MOST_DAYS)) {
            return refused(BAD_NUMBER);
        }
        return answered(decade.play(town, day, rules, seed, n));
    }

    public int drawn(int what) {
        return decade.told(what);
    }

    // ------------------------------------------------------------------ images, counts

    public int image(int k) {
        if (!isWithin(k, 0, IMAGES - 1)) {
            return refused(BAD_NUMBER);
        }
        Town image = images[k];
        if (image == null) {
            image = new Town();
            images[k] = image;
        }
        image.copyFrom(town);
        return answered(0);
    }

    public int back(int k) {
        if (!isWithin(k, 0, IMAGES - 1)) {
            return refused(BAD_NUMBER);
        }
        Town image = images[k];
        if (image == null) {
            return refused(NO_SUCH);
        }
        town.copyFrom(image);
        undo.clear();
        return answered(0);
    }

    public int count(int what) {
        switch (what) {
            case 0: return town.people;
            case 1: return town.works;
            case 2: return town.sights;
            case 3: return town.lawCount;
            case 4: return undo.size;
            case 5: return tape.length;
            case 6: return refusals[0];
            case 7: return refusals[1];
            case 8: return refusals[2];
            case 9: return refusals[3];
            case 10: return refusals[4];
            case 11: return town.force;
            case 12: return town.going.life;
            case 13: return town.going.snapped ? 1 : 0;
            case 14: return town.going.turns;
            case 15: return town.going.day;
            case 16: return town.sunday;
            case 17: return town.mood;
            default: return NONE;
        }
    }

    public int status() {
        return status;
    }

    private int answered(int answer) {
        status = 0;
        return answer;
    }

    private int refused(int by) {
        status = by;
        switch (by) {
            case BAD_NUMBER: refusals[0]++; break;
            case NO_SUCH: refusals[1]++; break;
            case CANNOT_BE: refusals[2]++; break;
            case NO_ROOM: refusals[3]++; break;
            case BAD_TEXT: refusals[4]++; break;
            default: break;
        }
        return by;
    }

    /** For doings, no answer of which is below 0. */
    private int settled(int answer) {
        return answer < 0 ? refused(answer) : answered(answer);
    }

    private static boolean areTurns(int turns) {
        return isWithin(turns, 0, MOST_TURNS);
    }

    private static boolean isWithin(int number, int least, int most) {
        return number >= least && number <= most;
    }

    // ------------------------------------------------------------------ what stands

    /** What wind(), key(), run() and mend() change: as much as undo() brings back. */
    private static final class Going {
        static final int SIZE = 2 * PEOPLE + WORKS + 4;

        final int[] oil = new int[PEOPLE];
        final int[] little = new int[PEOPLE];
        final int[] done = new int[WORKS];
        int life = 1000;
        boolean snapped;
        int turns = NONE;
        int day;

        Going() {
        }

        void copyFrom(Going other) {
            System.arraycopy(other.oil, 0, oil, 0, PEOPLE);
            System.arraycopy(other.little, 0, little, 0, PEOPLE);
            System.arraycopy(other.done, 0, done, 0, WORKS);
            life = other.life;
            snapped = other.snapped;
            turns = other.turns;
            day = other.day;
        }

        void keepIn(int[] rows, int from) {
            if (from < 0 || from > rows.length - SIZE) {
                return;
            }
            System.arraycopy(oil, 0, rows, from, PEOPLE);
            System.arraycopy(little, 0, rows, from + PEOPLE, PEOPLE);
            System.arraycopy(done, 0, rows, from + 2 * PEOPLE, WORKS);
            int rest = from + 2 * PEOPLE + WORKS;
            rows[rest] = life;
            rows[rest + 1] = snapped ? 1 : 0;
            rows[rest + 2] = turns;
            rows[rest + 3] = day;
        }

        void takeFrom(int[] rows, int from) {
            if (from < 0 || from > rows.length - SIZE) {
                return;
            }
            System.arraycopy(rows, from, oil, 0, PEOPLE);
            System.arraycopy(rows, from + PEOPLE, little, 0, PEOPLE);
            System.arraycopy(rows, from + 2 * PEOPLE, done, 0, WORKS);
            int rest = from + 2 * PEOPLE + WORKS;
            life = rows[rest];
            snapped = rows[rest + 1] == 1;
            turns = rows[rest + 2];
            day = rows[rest + 3];
        }

        void wear(int worn) {
            life = Math.max(0, life - worn);
        }

        void windBy(int by, int worn) {
            wear(worn);
            snapped = life == 0;
            turns = snapped ? NONE : by;
        }

        /** The next day's morning, behind a day that was run. */
        void sleep() {
            day++;
            turns = NONE;
            for (int person = 0; person < PEOPLE; person++) {
                oil[person] = Math.max(0, oil[person] - 1);
                little[person] = Math.max(0, little[person] - 1);
            }
        }
    }

    /** All that an IMAGE keeps. */
    private static final class Town {
        final int[] roads = new int[PLACES * PLACES];
        int people;
        final int[] place = new int[PEOPLE];
        int works;
        final int[] owner = new int[WORKS];
        final int[] minutes = new int[WORKS];
        final int[] due = new int[WORKS];
        final int[] worth = new int[WORKS];
        final int[] ahead = new int[WORKS];
        int sights;
        final int[] sightWork = new int[SIGHTS];
        final int[] sightHour = new int[SIGHTS];
        final int[] sightMinutes = new int[SIGHTS];
        final Text[] laws = new Text[LAWS];
        int lawCount;
        int force = NONE;
        int sunday = 7;
        int mood;
        final Going going = new Going();

        Town() {
        }

        void copyFrom(Town other) {
            System.arraycopy(other.roads, 0, roads, 0, PLACES * PLACES);
            people = other.people;
            System.arraycopy(other.place, 0, place, 0, PEOPLE);
            works = other.works;
            System.arraycopy(other.owner, 0, owner, 0, WORKS);
            System.arraycopy(other.minutes, 0, minutes, 0, WORKS);
            System.arraycopy(other.due, 0, due, 0, WORKS);
            System.arraycopy(other.worth, 0, worth, 0, WORKS);
            System.arraycopy(other.ahead, 0, ahead, 0, WORKS);
            sights = other.sights;
            System.arraycopy(other.sightWork, 0, sightWork, 0, SIGHTS);
            System.arraycopy(other.sightHour, 0, sightHour, 0, SIGHTS);
            System.arraycopy(other.sightMinutes, 0, sightMinutes, 0, SIGHTS);
            // A LAW never changes once it is read: two towns may share it.
            for (int law = 0; law < LAWS; law++) {
                laws[law] = other.laws[law];
            }
            lawCount = other.lawCount;
            force = other.force;
            sunday = other.sunday;
            mood = other.mood;
            going.copyFrom(other.going);
        }

        boolean hasPerson(int person) {
            return person >= 0 && person < people && person < PEOPLE;
        }

        boolean hasWork(int work) {
            return work >= 0 && work < works && work < WORKS;
        }

        boolean isDone(int work) {
            return hasWork(work) && going.done[work] >= minutes[work];
        }

        int worksLeft(int person) {
            int left = 0;
            for (int work = 0; work < works && work < WORKS; work++) {
                if (owner[work] == person && !isDone(work)) {
                    left++;
                }
            }
            return left;
        }

        /** The callers see to the room. */
        int addPerson(int oil, int where) {
            int person = people;
            if (person >= PEOPLE) {
                return NONE;
            }
            going.oil[person] = oil;
            going.little[person] = 0;
            place[person] = where;
            people++;
            return person;
        }

        /** The callers see to the room. */
        int addWork(int person, int length, int hour, int value, int before) {
            int work = works;
            if (work >= WORKS) {
                return NONE;
            }
            owner[work] = person;
            minutes[work] = length;
            due[work] = hour;
            worth[work] = value;
            ahead[work] = before;
            going.done[work] = 0;
            works++;
            return work;
        }

        /** The callers see to the room. */
        void addSight(int work, int hour, int so) {
            if (sights >= SIGHTS) {
                return;
            }
            sightWork[sights] = work;
            sightHour[sights] = hour;
            sightMinutes[sights] = so;
            sights++;
        }

        /** Null, if none is in FORCE. */
        Text lawInForce() {
            return force >= 0 && force < lawCount && force < LAWS ? laws[force] : null;
        }

        int mostTurns(Going of) {
            return of.day % 7 == 6 ? sunday : MOST_TURNS;
        }
    }

    /** The latest doings, each with what stood ahead of it. */
    private static final class Undo {
        private static final int MOST = 16;

        private final int[] kinds = new int[MOST];
        private final int[] rows = new int[MOST * Going.SIZE];
        private int first;
        int size;

        Undo() {
        }

        void clear() {
            size = 0;
        }

        void keep(int kind, Going going) {
            int slot = (first + size) % MOST;
            if (size < MOST) {
                size++;
            } else {
                first = (first + 1) % MOST;
            }
            kinds[slot] = kind;
            going.keepIn(rows, slot * Going.SIZE);
        }

        /** Which kind was undone; NONE: there is none. */
        int takeBack(Going going) {
            if (size == 0) {
                return NONE;
            }
            size--;
            int slot = (first + size) % MOST;
            going.takeFrom(rows, slot * Going.SIZE);
            return kinds[slot];
        }

        void copyFrom(Undo other) {
            System.arraycopy(other.kinds, 0, kinds, 0, MOST);
            System.arraycopy(other.rows, 0, rows, 0, MOST * Going.SIZE);
            first = other.first;
            size = other.size;
        }
    }

    // ------------------------------------------------------------------ the two languages

    /** The TAPE's bytes, and one TOKEN of it that is looked at. */
    private static final class Tape {
        static final int MOST = 400;
        static final int END = 0;
        static final int LETTERS = 1;
        static final int DIGITS = 2;
        static final int SIGN = 3;

        private static final char BLANK = ' ';
        /** Above every number that a TEXT may have: a longer row of digits stays here. */
        private static final int TOO_MUCH = 10000;

        private final int[] bytes = new int[MOST];
        int length;
        /** The TOKEN: its kind, its place, the place behind it; the byte of one of kind SIGN. */
        int kind;
        int start;
        private int behind;
        private int sign;

        Tape() {
        }

        boolean hasRoomFor(int more) {
            return length <= MOST - more;
        }

        /** Its four bytes, the highest first. */
        void addNumber(int number) {
            for (int shift = 24; shift >= 0; shift -= 8) {
                if (length >= 0 && length < MOST) {
                    bytes[length] = number >>> shift & 255;
                    length++;
                }
            }
        }

        /** NONE behind the end. */
        int byteAt(int at) {
            return at >= 0 && at < length && at < MOST ? bytes[at] : NONE;
        }

        void rewind() {
            behind = 0;
            next();
        }

        void next() {
            while (behind < length && byteAt(behind) == BLANK) {
                behind++;
            }
            start = behind;
            sign = NONE;
            if (start >= length) {
                kind = END;
                return;
            }
            kind = kindOf(byteAt(start));
            if (kind == SIGN) {
                sign = byteAt(start);
            }
            behind++;
            while (kind != SIGN && behind < length && kindOf(byteAt(behind)) == kind) {
                behind++;
            }
        }

        private static int kindOf(int letter) {
            if (letter >= 'a' && letter <= 'z') {
                return LETTERS;
            }
            return letter >= '0' && letter <= '9' ? DIGITS : SIGN;
        }

        boolean isSign(char which) {
            return sign == which;
        }

        boolean isWord(String word) {
            return wordIn(word) == 0;
        }

        /** Which of the words, that have a blank between them, the TOKEN is; NONE: none of them. */
        int wordIn(String words) {
            if (kind != LETTERS) {
                return NONE;
            }
            int index = 0;
            // How many letters of the word at hand are as the TOKEN's; NONE, once one is not.
            int same = 0;
            for (int at = 0; at <= words.length(); at++) {
                char letter = at < words.length() ? words.charAt(at) : BLANK;
                if (letter != BLANK) {
                    same = same != NONE && byteAt(start + same) == letter ? same + 1 : NONE;
                    continue;
                }
                if (same == behind - start) {
                    return index;
                }
                index++;
                same = 0;
            }
            return NONE;
        }

        /** NONE, if the TOKEN is no NUMBER from least to most. */
        int numberWithin(int least, int most) {
            if (kind != DIGITS) {
                return NONE;
            }
            int number = 0;
            for (int at = start; at < behind; at++) {
                number = Math.min(TOO_MUCH, number * 10 + byteAt(at) - '0');
            }
            return isWithin(number, least, most) ? number : NONE;
        }
    }

    /** A TEXT that was read: its clauses, their SUMS and TESTS as steps of two numbers each, done on a stack. */
    private static final class Text {
        static final int CLAUSES = 12;
        /** More than one step for each byte, and three ends for each clause. */
        static final int STEPS = Tape.MOST + 3 * CLAUSES;

        static final int END = 0;
        static final int NUMBER = 1;
        static final int WORD = 2;
        static final int NOT = 3;
        static final int AND = 4;
        static final int OR = 5;
        static final int PLUS = 6;
        static final int MINUS = 7;
        static final int TIMES = 8;
        static final int BY = 9;
        static final int REST = 10;
        static final int LESS = 11;
        static final int MORE = 12;
        static final int SAME = 13;

        final int[] kinds;
        final int[] sums;
        final int[] seconds;
        final int[] times;
        final int[] tests;
        final int[] code;
        int clauses;
        int size;

        Text(int clauses, int size) {
            int most = Math.max(0, Math.min(CLAUSES, clauses));
            kinds = new int[most];
            sums = new int[most];
            seconds = new int[most];
            times = new int[most];
            tests = new int[most];
            code = new int[Math.max(0, Math.min(2 * STEPS, size))];
        }

        Text copy() {
            Text text = new Text(clauses, size);
            int most = text.kinds.length;
            System.arraycopy(kinds, 0, text.kinds, 0, most);
            System.arraycopy(sums, 0, text.sums, 0, most);
            System.arraycopy(seconds, 0, text.seconds, 0, most);
            System.arraycopy(times, 0, text.times, 0, most);
            System.arraycopy(tests, 0, text.tests, 0, most);
            System.arraycopy(code, 0, text.code, 0, text.code.length);
            text.clauses = most;
            text.size = text.code.length;
            return text;
        }

        void clear() {
            clauses = 0;
            size = 0;
        }

        boolean isOpened(int kind) {
            if (clauses >= kinds.length) {
                return false;
            }
            kinds[clauses] = kind;
            sums[clauses] = NONE;
            seconds[clauses] = NONE;
            times[clauses] = 1;
            tests[clauses] = NONE;
            clauses++;
            return true;
        }

        /** For the clause that was opened last. */
        void tell(int[] row, int value) {
            if (clauses >= 1 && clauses <= row.length) {
                row[clauses - 1] = value;
            }
        }

        /** Answers where the step stands. */
        int add(int step, int value) {
            int at = size;
            if (at + 1 < code.length) {
                code[at] = step;
                code[at + 1] = value;
                size = at + 2;
            }
            return at;
        }

        /** The step at that place, which may leap, leaps to where the text has come. */
        void leapHere(int at) {
            if (at >= 0 && at + 1 < code.length) {
                code[at + 1] = size;
            }
        }
    }

    /**
     * Reads a TEXT from the TAPE. Each reading method answers whether all could go on; if not, the TOKEN that the
     * TAPE stands at is the FAULT. The depth that is handed on is that of the brackets.
     */
    private static final class Reader {
        static final int ORDER_DAY = 0;
        static final int ORDER_TURNS = 1;
        static final int ORDER_LIFE = 2;
        static final int ORDER_DONE = 3;
        static final int ORDER_ENDED = 4;
        static final int ORDER_LITTLE = 5;
        static final int ORDER_LEFT = ORDER_LITTLE + PEOPLE;
        static final int ORDER_VALUES = ORDER_LEFT + WORKS;

        /** In the order of the kinds that Rules asks for. */
        private static final String LAW_CLAUSES = "runs speeds wears snaps bars";
        /** In the order of Rules' values. */
        private static final String LAW_WORDS = "turns power hour person oil little life day mood";
        /** In the order of the doings. */
        private static final String ORDER_CLAUSES = "wind key run mend";
        /** In the order of the values told for ORDERS; the last two have a number behind them. */
        private static final String ORDER_WORDS = "day turns life done ended little left";
        private static final int WORD_LITTLE = 5;

        private static final int MOST_PARTS = 50;
        private static final int MOST_NUMBER = 1000;
        private static final int MOST_TIMES = 20;
        private static final int MOST_DEPTH = 8;

        private final Tape tape;
        final Text text = new Text(Text.CLAUSES, 2 * Text.STEPS);
        int fault = NONE;
        private boolean ofOrders;
        private int parts;

        Reader(Tape tape) {
            this.tape = tape;
        }

        boolean read(boolean orders) {
            ofOrders = orders;
            parts = 0;
            text.clear();
            tape.rewind();
            fault = NONE;
            for (int clause = 0; clause < Text.CLAUSES; clause++) {
                boolean read = orders ? orderClause() : lawClause();
                if (read && tape.kind == Tape.END) {
                    return true;
                }
                if (!read || !tape.isSign(';')) {
                    fault = tape.start;
                    return false;
                }
                tape.next();
            }
            fault = tape.start;
            return false;
        }

        private boolean lawClause() {
            int kind = tape.wordIn(LAW_CLAUSES);
            if (kind == NONE || !text.isOpened(kind)) {
                return false;
            }
            tape.next();
            return (kind == Rules.BARS || wholeSum(text.sums)) && condition();
        }

        private boolean orderClause() {
            int kind = tape.wordIn(ORDER_CLAUSES);
            if (kind == NONE || !text.isOpened(kind)) {
                return false;
            }
            tape.next();
            if (kind != RUN && !wholeSum(text.sums)) {
                return false;
            }
            if (kind == KEY) {
                if (!tape.isWord("by")) {
                    return false;
                }
                tape.next();
                if (!wholeSum(text.seconds)) {
                    return false;
                }
            }
            return repeats() && condition();
        }

        private boolean repeats() {
            if (!tape.isWord("times")) {
                return true;
            }
            tape.next();
            int times = tape.numberWithin(1, MOST_TIMES);
            if (times == NONE) {
                return false;
            }
            text.tell(text.times, times);
            tape.next();
            return true;
        }

        private boolean condition() {
            if (!tape.isWord("if")) {
                return true;
            }
            tape.next();
            text.tell(text.tests, text.size);
            if (!test(0)) {
                return false;
            }
            text.add(Text.END, 0);
            return true;
        }

        private boolean wholeSum(int[] starts) {
            text.tell(starts, text.size);
            if (!sum(0)) {
                return false;
            }
            text.add(Text.END, 0);
            return true;
        }

        private boolean test(int depth) {
            if (!both(depth)) {
                return false;
            }
            for (int more = 0; more < Tape.MOST && tape.isWord("or"); more++) {
                tape.next();
                int leap = text.add(Text.OR, 0);
                if (!both(depth)) {
                    return false;
                }
                text.leapHere(leap);
            }
            return true;
        }

        private boolean both(int depth) {
            if (!plain(depth)) {
                return false;
            }
            for (int more = 0; more < Tape.MOST && tape.isWord("and"); more++) {
                tape.next();
                int leap = text.add(Text.AND, 0);
                if (!plain(depth)) {
                    return false;
                }
                text.leapHere(leap);
            }
            return true;
        }

        private boolean plain(int depth) {
            boolean isTurned = false;
            for (int more = 0; more < Tape.MOST && tape.isWord("not"); more++) {
                tape.next();
                isTurned = !isTurned;
            }
            if (tape.isSign('(')) {
                if (!bracketed(depth)) {
                    return false;
                }
            } else {
                if (!sum(depth)) {
                    return false;
                }
                int step = comparison();
                if (step == NONE) {
                    return false;
                }
                tape.next();
                if (!sum(depth)) {
                    return false;
                }
                text.add(step, 0);
            }
            if (isTurned) {
                text.add(Text.NOT, 0);
            }
            return true;
        }

        private int comparison() {
            if (tape.isSign('<')) {
                return Text.LESS;
            }
            if (tape.isSign('>')) {
                return Text.MORE;
            }
            return tape.isSign('=') ? Text.SAME : NONE;
        }

        private boolean bracketed(int depth) {
            if (depth >= MOST_DEPTH) {
                return false;
            }
            tape.next();
            if (!test(depth + 1) || !tape.isSign(')')) {
                return false;
            }
            tape.next();
            return true;
        }

        private boolean sum(int depth) {
            if (!term(depth)) {
                return false;
            }
            for (int more = 0; more < Tape.MOST && (tape.isSign('+') || tape.isSign('-')); more++) {
                int step = tape.isSign('+') ? Text.PLUS : Text.MINUS;
                tape.next();
                if (!term(depth)) {
                    return false;
                }
                text.add(step, 0);
            }
            return true;
        }

        private boolean term(int depth) {
            if (!part(depth)) {
                return false;
            }
            int step = timesOrBy();
            for (int more = 0; more < Tape.MOST && step != NONE; more++) {
                tape.next();
                if (!part(depth)) {
                    return false;
                }
                text.add(step, 0);
                step = timesOrBy();
            }
            return true;
        }

        private int timesOrBy() {
            if (tape.isSign('*')) {
                return Text.TIMES;
            }
            if (tape.isSign('/')) {
                return Text.BY;
            }
            return tape.isSign('%') ? Text.REST : NONE;
        }

        private boolean part(int depth) {
            if (tape.isSign('[')) {
                if (depth >= MOST_DEPTH) {
                    return false;
                }
                tape.next();
                if (!sum(depth + 1) || !tape.isSign(']')) {
                    return false;
                }
                tape.next();
                return true;
            }
            if (parts >= MOST_PARTS) {
                return false;
            }
            parts++;
            int step = tape.kind == Tape.DIGITS ? Text.NUMBER : Text.WORD;
            int value = step == Text.NUMBER ? tape.numberWithin(0, MOST_NUMBER)
                    : tape.wordIn(ofOrders ? ORDER_WORDS : LAW_WORDS);
            if (value == NONE) {
                return false;
            }
            tape.next();
            if (ofOrders && step == Text.WORD && value >= WORD_LITTLE) {
                boolean isLittle = value == WORD_LITTLE;
                int number = tape.numberWithin(0, isLittle ? PEOPLE - 1 : WORKS - 1);
                if (number == NONE) {
                    return false;
                }
                tape.next();
                value = (isLittle ? ORDER_LITTLE : ORDER_LEFT) + number;
            }
            text.add(step, value);
            return true;
        }
    }

    /** Works out SUMS and TESTS, and asks the LAW in FORCE. */
    private static final class Rules {
        static final int RUNS = 0;
        static final int SPEEDS = 1;
        static final int WEARS = 2;
        static final int SNAPS = 3;
        static final int BARS = 4;

        /** The words of LAWS, in the Reader's order. */
        private static final int TURNS = 0;
        private static final int POWER = 1;
        private static final int HOUR = 2;
        private static final int PERSON = 3;
        private static final int OIL = 4;
        private static final int LITTLE = 5;
        private static final int LIFE = 6;
        private static final int DAY = 7;
        private static final int MOOD = 8;

        private static final int DEPTH = 64;
        private static final long MOST = 1000000000L;
        private static final int MOST_RUNS = 999;
        private static final int MOST_SPEED = 60;
        private static final int MOST_WEAR = 999;
        private static final int MOST_SNAP = 100;

        private final int[] words = new int[MOOD + 1];
        private final long[] stack = new long[DEPTH];
        /** Null: none is in FORCE. */
        private Text law;

        Rules() {
        }

        /** What is asked next is asked of this town, WOUND by so many TURNS. */
        void about(Town town, Going going, int turns) {
            law = town.lawInForce();
            words[TURNS] = turns;
            words[LIFE] = going.life;
            words[DAY] = going.day;
            words[MOOD] = town.mood;
        }

        private void tellHour(int hour, int power) {
            words[HOUR] = hour;
            words[POWER] = power;
        }

        private void tellPerson(int person, int oil, int little) {
            words[PERSON] = person;
            words[OIL] = oil;
            words[LITTLE] = little;
        }

        int runs(int hour, int power) {
            tellHour(hour, power);
            tellPerson(NONE, NONE, NONE);
            long told = told(RUNS);
            return told == BROKEN ? 60 : nearest(told, MOST_RUNS);
        }

        int speeds(int hour, int power, int person, int oil, int little) {
            tellHour(hour, power);
            tellPerson(person, oil, little);
            long told = told(SPEEDS);
            return nearest(told == BROKEN ? power / 10 + 5 * little : told, MOST_SPEED);
        }

        boolean bars(int person, int oil, int little) {
            tellHour(NONE, NONE);
            tellPerson(person, oil, little);
            return told(BARS) != BROKEN;
        }

        int wears() {
            tellHour(NONE, NONE);
            tellPerson(NONE, NONE, NONE);
            long told = told(WEARS);
            return told == BROKEN ? words[TURNS] * words[TURNS] : nearest(told, MOST_WEAR);
        }

        int snaps() {
            tellHour(NONE, NONE);
            tellPerson(NONE, NONE, NONE);
            long told = told(SNAPS);
            return nearest(told == BROKEN ? 10 * (words[TURNS] - 9) : told, MOST_SNAP);
        }

        private static int nearest(long told, int most) {
            return (int) Math.max(0, Math.min(most, told));
        }

        /** What the last clause of the kind that HOLDS tells ("bars", which has no SUM, 1); BROKEN, if none does. */
        private long told(int kind) {
            if (law == null) {
                return BROKEN;
            }
            for (int clause = law.clauses - 1; clause >= 0; clause--) {
                if (law.kinds[clause] != kind || value(law, law.tests[clause], words) != 1) {
                    continue;
                }
                long told = value(law, law.sums[clause], words);
                if (told != BROKEN) {
                    return told;
                }
            }
            return BROKEN;
        }

        /**
         * A SUM's value, or 1 and 0 for a TEST that is so or not; BROKEN. 1, where there is none: a clause without
         * "if" is so.
         */
        long value(Text text, int start, int[] values) {
            if (start == NONE) {
                return 1;
            }
            int top = 0;
            for (int at = start; at >= 0 && at + 1 < text.code.length && top < DEPTH; at += 2) {
                int step = text.code[at];
                int given = text.code[at + 1];
                if (step == Text.NUMBER || step == Text.WORD) {
                    boolean isWord = step == Text.WORD && given >= 0 && given < values.length;
                    stack[top] = isWord ? values[given] : given;
                    top++;
                    continue;
                }
                if (top < 1) {
                    return BROKEN;
                }
                long right = stack[top - 1];
                if (step == Text.END) {
                    return right;
                }
                if (step == Text.NOT) {
                    stack[top - 1] = 1 - right;
                    continue;
                }
                if (step == Text.AND || step == Text.OR) {
                    if ((right == 1) != (step == Text.OR)) {
                        top--;
                    } else if (given - 2 > at) {
                        at = given - 2;
                    }
                    continue;
                }
                if (top < 2) {
                    return BROKEN;
                }
                top--;
                long left = stack[top - 1];
                long result;
                switch (step) {
                    case Text.PLUS: result = left + right; break;
                    case Text.MINUS: result = left - right; break;
                    case Text.TIMES: result = left * right; break;
                    case Text.BY: result = right == 0 ? BROKEN : left / right; break;
                    case Text.REST: result = right == 0 ? BROKEN : left % right; break;
                    case Text.LESS: result = left < right ? 1 : 0; break;
                    case Text.MORE: result = left > right ? 1 : 0; break;
                    default: result = left == right ? 1 : 0; break;
                }
                if (result > MOST || result < -MOST) {
                    return BROKEN;
                }
                stack[top - 1] = result;
            }
            return BROKEN;
        }
    }

    // ------------------------------------------------------------------ days

    /** A day from its morning, hour by hour; what was going is left as it is, but for runs(). */
    private static final class Day {
        private final Rules rules;
        private Town town;
        private Going going;
        final int[] power = new int[HOURS];
        final int[] done = new int[WORKS];
        /** In which HOUR of this day a WORK ENDS; NONE: not, or it was DONE ahead of it. */
        final int[] ends = new int[WORKS];

        Day(Rules rules, Town town) {
            this.rules = rules;
            this.town = town;
            this.going = town.going;
        }

        void begin(Town ofTown, Going ofGoing, int turns) {
            town = ofTown;
            going = ofGoing;
            rules.about(town, going, turns);
            int left = turns * 100;
            for (int hour = 0; hour < HOURS; hour++) {
                power[hour] = left;
                if (left > 0) {
                    left = Math.max(0, left - rules.runs(hour, left));
                }
            }
            System.arraycopy(going.done, 0, done, 0, WORKS);
            Arrays.fill(ends, NONE);
        }

        void pass(Town ofTown, Going ofGoing, int turns) {
            begin(ofTown, ofGoing, turns);
            for (int hour = 0; hour < HOURS; hour++) {
                passHour(hour);
            }
        }

        /** The day is run, by the turns that stand: how many WORKS ENDED. */
        int runs(Town ofTown, Going ofGoing) {
            begin(ofTown, ofGoing, ofGoing.turns);
            for (int hour = 0; hour < HOURS; hour++) {
                passHour(hour);
            }
            System.arraycopy(done, 0, ofGoing.done, 0, WORKS);
            ofGoing.sleep();
            int ended = 0;
            for (int work = 0; work < town.works; work++) {
                if (isEnding(work)) {
                    ended++;
                }
            }
            return ended;
        }

        private void passHour(int hour) {
            for (int person = 0; person < town.people && person < PEOPLE; person++) {
                int work = workOf(person, hour);
                if (work == NONE) {
                    continue;
                }
                int speed = rules.speeds(hour, power[hour], person, going.oil[person], going.little[person]);
                done[work] = Math.min(town.minutes[work], done[work] + speed);
                if (done[work] == town.minutes[work]) {
                    ends[work] = hour;
                }
            }
        }

        private int workOf(int person, int hour) {
            for (int work = 0; work < town.works && work < WORKS; work++) {
                if (town.owner[work] == person && done[work] < town.minutes[work]
                        && isReady(town.ahead[work], hour)) {
                    return work;
                }
            }
            return NONE;
        }

        /** What ENDS in the hour itself was not DONE at the end of one before. */
        private boolean isReady(int ahead, int hour) {
            return !town.hasWork(ahead) || (done[ahead] >= town.minutes[ahead] && ends[ahead] < hour);
        }

        int speed(int hour, int person) {
            if (!isWithin(hour, 0, HOURS - 1) || !town.hasPerson(person)) {
                return 0;
            }
            return rules.speeds(hour, power[hour], person, going.oil[person], going.little[person]);
        }

        int standsFrom() {
            for (int hour = HOURS - 1; hour >= 0; hour--) {
                for (int person = 0; person < town.people; person++) {
                    if (speed(hour, person) > 0) {
                        return hour + 1;
                    }
                }
            }
            return 0;
        }

        private boolean isEnding(int work) {
            return work >= 0 && work < WORKS && ends[work] != NONE;
        }

        boolean isInTime(int work) {
            return isEnding(work) && ends[work] <= town.due[work];
        }

        boolean areInTime(int works) {
            for (int work = 0; work < town.works; work++) {
                if ((works >> work & 1) == 1 && !isInTime(work)) {
                    return false;
                }
            }
            return true;
        }

        int worthInTime() {
            int worth = 0;
            for (int work = 0; work < town.works && work < WORKS; work++) {
                if (isInTime(work)) {
                    worth += town.worth[work];
                }
            }
            return worth;
        }

        int leftInTheMiddle() {
            int bits = 0;
            for (int work = 0; work < town.works && work < WORKS; work++) {
                if (done[work] > 0 && done[work] < town.minutes[work]) {
                    bits |= 1 << work;
                }
            }
            return bits;
        }

        /** To be asked of a day that has begun; it passes then. */
        boolean areSightsSo() {
            for (int hour = 0; hour < HOURS; hour++) {
                passHour(hour);
                for (int sight = 0; sight < town.sights && sight < SIGHTS; sight++) {
                    int work = town.sightWork[sight];
                    if (town.sightHour[sight] == hour && town.hasWork(work)
                            && done[work] != town.sightMinutes[sight]) {
                        return false;
                    }
                }
            }
            return true;
        }
    }

    /** The best order of one's WORKS: all rows of them are tried, from the first on. */
    private static final class Orderly {
        private static final int MOST = 6;
        private static final int ROWS = 720;

        private final int[] row = new int[MOST];
        private final int[] speeds = new int[HOURS];
        private final int[] done = new int[WORKS];
        private final int[] ends = new int[WORKS];
        final int[] best = new int[MOST];
        int size;
        int worth;

        Orderly() {
        }

        /** The day is one that has passed in the order of numbers. False, if there are too many WORKS. */
        boolean isFound(Town town, Day day, int person) {
            size = 0;
            if (town.worksLeft(person) > MOST) {
                return false;
            }
            for (int work = 0; work < town.works && work < WORKS; work++) {
                if (town.owner[work] == person && !town.isDone(work) && size < MOST) {
                    row[size] = work;
                    size++;
                }
            }
            for (int hour = 0; hour < HOURS; hour++) {
                speeds[hour] = day.speed(hour, person);
            }
            worth = NONE;
            boolean isMore = true;
            for (int tried = 0; tried < ROWS && isMore; tried++) {
                begin(town, day, person);
                pass(town);
                int worthOfRow = worthInTime(town);
                if (worthOfRow > worth) {
                    worth = worthOfRow;
                    System.arraycopy(row, 0, best, 0, MOST);
                }
                isMore = isNextRow();
            }
            return true;
        }

        /** WORKS of others END as they did in the day that passed. */
        private void begin(Town town, Day day, int person) {
            for (int work = 0; work < WORKS; work++) {
                boolean isOwn = town.owner[work] == person;
                done[work] = isOwn ? town.going.done[work] : day.done[work];
                ends[work] = isOwn ? NONE : day.ends[work];
            }
        }

        private void pass(Town town) {
            for (int hour = 0; hour < HOURS; hour++) {
                int work = speeds[hour] == 0 ? NONE : workOf(town, hour);
                if (!town.hasWork(work)) {
                    continue;
                }
                done[work] = Math.min(town.minutes[work], done[work] + speeds[hour]);
                if (done[work] == town.minutes[work]) {
                    ends[work] = hour;
                }
            }
        }

        private int workOf(Town town, int hour) {
            for (int i = 0; i < size; i++) {
                int work = row[i];
                if (town.hasWork(work) && done[work] < town.minutes[work]
                        && isReady(town, town.ahead[work], hour)) {
                    return work;
                }
            }
            return NONE;
        }

        private boolean isReady(Town town, int ahead, int hour) {
            return !town.hasWork(ahead) || (done[ahead] >= town.minutes[ahead] && ends[ahead] < hour);
        }

        private int worthInTime(Town town) {
            int sum = 0;
            for (int i = 0; i < size; i++) {
                int work = row[i];
                if (town.hasWork(work) && ends[work] != NONE && ends[work] <= town.due[work]) {
                    sum += town.worth[work];
                }
            }
            return sum;
        }

        /** The row becomes the next one as rows of numbers are ordered; false behind the last. */
        private boolean isNextRow() {
            int from = size - 2;
            while (from >= 0 && row[from] > row[from + 1]) {
                from--;
            }
            if (from < 0) {
                return false;
            }
            int other = size - 1;
            while (other > from && row[other] < row[from]) {
                other--;
            }
            exchange(from, other);
            int high = size - 1;
            for (int low = from + 1; low < high; low++) {
                exchange(low, high);
                high--;
            }
            return true;
        }

        private void exchange(int one, int other) {
            if (isWithin(one, 0, MOST - 1) && isWithin(other, 0, MOST - 1)) {
                int kept = row[one];
                row[one] = row[other];
                row[other] = kept;
            }
        }
    }

    /** GUARDS and ROUNDS. */
    private static final class Places {
        /** More than any way that there is. */
        private static final int FAR = 1000000;
        /** More than any round by ways that are not there. */
        private static final int FARTHEST = 100 * FAR;

        private final int[] ways = new int[PLACES * PLACES];
        /** By a set of PLACES and one more: the least minutes from that one by all of the set to PLACE 0. */
        private final int[] least = new int[(1 << PLACES) * PLACES];

        Places() {
        }

        int fewestGuards(int[] roads) {
            int best = (1 << PLACES) - 1;
            for (int bits = best; bits >= 0; bits--) {
                if (Integer.bitCount(bits) <= Integer.bitCount(best) && isGuarded(roads, bits)) {
                    best = bits;
                }
            }
            return best;
        }

        private static boolean isGuarded(int[] roads, int bits) {
            for (int road = 0; road < roads.length; road++) {
                int ends = 1 << road / PLACES | 1 << road % PLACES;
                if (roads[road] > 0 && (ends & bits) == 0) {
                    return false;
                }
            }
            return true;
        }

        /** Has to go ahead of roundOf() and stop() for the same PLACES. */
        void measure(int[] roads, int told) {
            measureWays(roads);
            for (int set = 0; set <= told && set < 1 << PLACES; set++) {
                if ((set & ~told) != 0) {
                    continue;
                }
                for (int from = 0; from < PLACES; from++) {
                    least[set * PLACES + from] = set == 0 ? way(from, 0) : leastOf(set, from);
                }
            }
        }

        private void measureWays(int[] roads) {
            for (int road = 0; road < ways.length && road < roads.length; road++) {
                int minutes = roads[road] > 0 ? roads[road] : FAR;
                ways[road] = road / PLACES == road % PLACES ? 0 : minutes;
            }
            for (int by = 0; by < PLACES; by++) {
                for (int from = 0; from < PLACES; from++) {
                    for (int to = 0; to < PLACES; to++) {
                        int minutes = way(from, by) + way(by, to);
                        ways[from * PLACES + to] = Math.min(way(from, to), minutes);
                    }
                }
            }
        }

        private int way(int from, int to) {
            int at = from * PLACES + to;
            return at >= 0 && at < ways.length ? ways[at] : FAR;
        }

        private int leastOf(int set, int from) {
            int best = FARTHEST;
            for (int next = 0; next < PLACES; next++) {
                if ((set >> next & 1) == 1) {
                    best = Math.min(best, by(set, from, next));
                }
            }
            return best;
        }

        /** The least minutes, if the next PLACE of the set is told. */
        private int by(int set, int from, int next) {
            int at = (set & ~(1 << next)) * PLACES + next;
            return way(from, next) + (at >= 0 && at < least.length ? least[at] : FAR);
        }

        int roundOf(int told) {
            int at = told * PLACES;
            int minutes = at >= 0 && at < least.length ? least[at] : FAR;
            return minutes >= FAR ? NONE : minutes;
        }

        /** The i-th PLACE of the first order among the best. */
        int stop(int told, int i) {
            int set = told;
            int from = 0;
            for (int stops = 0; stops <= i && stops < PLACES; stops++) {
                int next = firstOf(set, from);
                if (next == NONE) {
                    return NONE;
                }
                set &= ~(1 << next);
                from = next;
            }
            return from;
        }

        private int firstOf(int set, int from) {
            int best = leastOf(set, from);
            for (int next = 0; next < PLACES; next++) {
                if ((set >> next & 1) == 1 && by(set, from, next) == best) {
                    return next;
                }
            }
            return NONE;
        }
    }

    /** The latest DECADE. */
    private static final class Decade {
        private final Going going = new Going();
        private int seed;
        private int daysRun;
        /** How many WORKS the town had then; NONE: there was no DECADE yet. */
        private int works = NONE;

        Decade() {
        }

        int play(Town town, Day day, Rules rules, int ofSeed, int days) {
            going.copyFrom(town.going);
            works = town.works;
            seed = ofSeed;
            daysRun = 0;
            int ended = 0;
            for (int i = 0; i < days && going.day < LAST_DAY; i++) {
                if (going.turns == NONE && !going.snapped) {
                    windByDraws(town, rules);
                }
                if (going.turns == NONE) {
                    going.day++;
                } else {
                    ended += day.runs(town, going);
                    daysRun++;
                }
            }
            return ended;
        }

        private void windByDraws(Town town, Rules rules) {
            int turns = Math.min(draw(MOST_TURNS + 1), town.mostTurns(going));
            rules.about(town, going, turns);
            if (draw(100) < rules.snaps()) {
                going.snapped = true;
            } else {
                going.windBy(turns, rules.wears());
            }
        }

        private int draw(int of) {
            seed = (seed * 1103 + 12345) % 1000003;
            return of > 0 ? seed % of : 0;
        }

        int told(int what) {
            if (works == NONE) {
                return NONE;
            }
            switch (what) {
                case 0: return going.life;
                case 1: return going.snapped ? 1 : 0;
                case 2: return going.day;
                case 3: return daysRun;
                default: return what >= 4 && what - 4 < works && what - 4 < WORKS ? going.done[what - 4] : NONE;
            }
        }
    }
}
