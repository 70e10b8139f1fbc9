import java.util.ArrayList;
import java.util.Arrays;
import java.util.HashMap;
import java.util.List;
import java.util.Map;

/**
 * A second, slow telling of the document, written apart from the class: lists, maps, recursion, exceptions.
 * ModelTest compares the two over random runs of calls.
 */
final class Model {
    static final class Fault extends RuntimeException {
        final int at;
        Fault(int at) {
            super(null, null, false, false);
            this.at = at;
        }
    }

    static final class Broken extends RuntimeException {
        Broken() {
            super(null, null, false, false);
        }
    }

    static final class Refused extends RuntimeException {
        final int by;
        Refused(int by) {
            super(null, null, false, false);
            this.by = by;
        }
    }

    interface Num {
        long of(Map<String, Long> words);
    }

    interface Test {
        boolean of(Map<String, Long> words);
    }

    static final class Clause {
        String kind;
        Num sum;
        Num second;
        Test test;
        int times = 1;

        boolean isSo(Map<String, Long> words) {
            try {
                return test == null || test.of(words);
            } catch (Broken b) {
                return false;
            }
        }
    }

    static final class Person {
        int oil, place, little;
        Person copy() {
            Person p = new Person();
            p.oil = oil;
            p.place = place;
            p.little = little;
            return p;
        }
    }

    static final class Work {
        int number, person, minutes, due, worth, ahead, done;
        Work copy() {
            Work w = new Work();
            w.number = number;
            w.person = person;
            w.minutes = minutes;
            w.due = due;
            w.worth = worth;
            w.ahead = ahead;
            w.done = done;
            return w;
        }
        boolean all() {
            return done == minutes;
        }
    }

    /** All that IMAGES keep. */
    static final class State {
        Map<String, Integer> roads = new HashMap<>();
        List<Person> people = new ArrayList<>();
        List<Work> works = new ArrayList<>();
        List<int[]> sights = new ArrayList<>();
        List<List<Clause>> laws = new ArrayList<>();
        int force = -1, life = 1000, turns = -1, day = 0, sunday = 7, mood = 0;
        boolean snapped;

        State copy() {
            State s = new State();
            s.roads.putAll(roads);
            for (Person p : people) s.people.add(p.copy());
            for (Work w : works) s.works.add(w.copy());
            s.sights.addAll(sights);
            s.laws.addAll(laws);
            s.force = force;
            s.life = life;
            s.turns = turns;
            s.day = day;
            s.sunday = sunday;
            s.mood = mood;
            s.snapped = snapped;
            return s;
        }

        int road(int a, int b) {
            return roads.getOrDefault(Math.min(a, b) + "-" + Math.max(a, b), 0);
        }
    }

    static final class Undone {
        final int kind;
        final State state;
        Undone(int kind, State state) {
            this.kind = kind;
            this.state = state;
        }
    }

    static final class Drawn {
        State end;
        int ran;
    }

    State s = new State();
    State[] images = new State[2];
    List<Undone> undo = new ArrayList<>();
    byte[] tape = new byte[0];
    int fault = -1, stopped = -1, dust = 0, status = 0;
    int[] refusals = new int[7];
    Drawn drawn;

    // ---------------------------------------------------------------- answers and refusals

    private int ok(int answer) {
        status = 0;
        return answer;
    }

    private int no(int by) {
        status = by;
        refusals[-by]++;
        return by;
    }

    static boolean in(long x, long a, long b) {
        return a <= x && x <= b;
    }

    boolean isPerson(int p) {
        return in(p, 0, s.people.size() - 1);
    }

    boolean isWork(int w) {
        return in(w, 0, s.works.size() - 1);
    }

    int road(int a, int b, int m) {
        if (!in(a, 0, 7) || !in(b, 0, 7) || a == b || !in(m, 0, 99)) return no(-1);
        Integer was = s.roads.put(Math.min(a, b) + "-" + Math.max(a, b), m);
        return ok(was == null ? 0 : was);
    }

    int person(int oil, int place) {
        if (!in(oil, 0, 9) || !in(place, 0, 7)) return no(-1);
        if (s.people.size() == 6) return no(-5);
        Person p = new Person();
        p.oil = oil;
        p.place = place;
        s.people.add(p);
        undo.clear();
        return ok(s.people.size() - 1);
    }

    int oil(int person, int value) {
        if (!in(value, 0, 9)) return no(-1);
        if (!isPerson(person)) return no(-2);
        int was = s.people.get(person).oil;
        s.people.get(person).oil = value;
        undo.clear();
        return ok(was);
    }

    int of(int person, int what) {
        if (!isPerson(person)) return -1;
        Person p = s.people.get(person);
        if (what == 0) return p.oil;
        if (what == 1) return p.place;
        if (what == 2) return p.little;
        if (what == 3) return (int) s.works.stream().filter(w -> w.person == person && !w.all()).count();
        return -1;
    }

    private int add(int person, int minutes, int due, int worth, int ahead) {
        Work w = new Work();
        w.number = s.works.size();
        w.person = person;
        w.minutes = minutes;
        w.due = due;
        w.worth = worth;
        w.ahead = ahead;
        s.works.add(w);
        return w.number;
    }

    int work(int person, int minutes, int due, int worth, int ahead) {
        if (!in(minutes, 1, 600) || !in(due, 0, 23) || !in(worth, 1, 99)) return no(-1);
        if (!isPerson(person) || ahead != -1 && !isWork(ahead)) return no(-2);
        if (s.works.size() == 10) return no(-5);
        undo.clear();
        return ok(add(person, minutes, due, worth, ahead));
    }

    int at(int work, int what) {
        if (!isWork(work)) return -1;
        Work w = s.works.get(work);
        int[] all = {w.person, w.minutes, w.due, w.worth, w.ahead, w.done};
        return in(what, 0, 5) ? all[what] : -1;
    }

    int terms(int what, int value) {
        int was;
        if (what == 0 && in(value, 0, 999)) {
            was = s.day;
            s.day = value;
        } else if (what == 1 && in(value, 1, 9)) {
            was = s.sunday;
            s.sunday = value;
        } else if (what == 2 && in(value, 0, 9)) {
            was = s.mood;
            s.mood = value;
        } else {
            return no(-1);
        }
        undo.clear();
        return ok(was);
    }

    int feed(int... n) {
        if (tape.length + 20 > 400) return -1;
        int from = tape.length;
        tape = Arrays.copyOf(tape, from + 20);
        for (int i = 0; i < 20; i++) tape[from + i] = (byte) (n[i / 4] >> (3 - i % 4) * 8);
        return tape.length;
    }

    int end(int n) {
        if (n < 0 || n > tape.length) return -1;
        tape = Arrays.copyOf(tape, n);
        return n;
    }

    private byte[] take() {
        byte[] was = tape;
        tape = new byte[0];
        return was;
    }

    int row() {
        byte[] t = take();
        if (t.length == 0) return no(-6);
        dust = 0;
        int came = 0;
        for (int i = 0; i < t.length; i += 4) {
            boolean whole = i + 4 <= t.length;
            if (whole && isPerson(t[i] & 255) && t[i + 1] != 0 && in(t[i + 2] & 255, 0, 23) && in(t[i + 3] & 255, 1, 99)
                    && s.works.size() < 10) {
                add(t[i] & 255, t[i + 1] & 255, t[i + 2] & 255, t[i + 3] & 255, -1);
                came++;
            } else {
                dust++;
            }
        }
        undo.clear();
        return ok(came);
    }

    // ---------------------------------------------------------------- texts

    static final class Parser {
        final List<String> tokens = new ArrayList<>();
        final List<Integer> places = new ArrayList<>();
        int at = 0;
        int parts = 0;
        int open = 0;
        final boolean orders;

        Parser(byte[] bytes, boolean orders) {
            this.orders = orders;
            StringBuilder text = new StringBuilder();
            for (byte b : bytes) text.append((char) (b & 255));
            java.util.regex.Matcher m = java.util.regex.Pattern.compile("(?s)[a-z]+|[0-9]+|[^ ]").matcher(text);
            while (m.find()) {
                tokens.add(m.group());
                places.add(m.start());
            }
            tokens.add("");
            places.add(bytes.length);
        }

        String see() {
            return tokens.get(at);
        }

        Fault fault() {
            return new Fault(places.get(at));
        }

        boolean ate(String token) {
            if (!see().equals(token)) return false;
            at++;
            return true;
        }

        void eat(String token) {
            if (!ate(token)) throw fault();
        }

        int number(int least, int most) {
            if (!see().matches("[0-9]+")) throw fault();
            java.math.BigInteger n = new java.math.BigInteger(see());
            if (n.bitLength() > 20 || !in(n.intValue(), least, most)) throw fault();
            at++;
            return n.intValue();
        }

        List<Clause> all() {
            List<Clause> clauses = new ArrayList<>();
            do {
                if (clauses.size() == 12) throw fault();
                clauses.add(orders ? order() : law());
            } while (ate(";"));
            if (!see().isEmpty()) throw fault();
            return clauses;
        }

        Clause law() {
            Clause c = new Clause();
            c.kind = see();
            if (!Arrays.asList("runs", "speeds", "wears", "snaps", "bars").contains(c.kind)) throw fault();
            at++;
            if (!c.kind.equals("bars")) c.sum = sum();
            if (ate("if")) c.test = test();
            return c;
        }

        Clause order() {
            Clause c = new Clause();
            c.kind = see();
            if (!Arrays.asList("wind", "key", "run", "mend").contains(c.kind)) throw fault();
            at++;
            if (!c.kind.equals("run")) c.sum = sum();
            if (c.kind.equals("key")) {
                eat("by");
                c.second = sum();
            }
            if (ate("times")) c.times = number(1, 20);
            if (ate("if")) c.test = test();
            return c;
        }

        Test test() {
            Test left = both();
            while (ate("or")) {
                Test l = left;
                Test r = both();
                left = words -> l.of(words) || r.of(words);
            }
            return left;
        }

        Test both() {
            Test left = plain();
            while (ate("and")) {
                Test l = left;
                Test r = plain();
                left = words -> l.of(words) && r.of(words);
            }
            return left;
        }

        Test plain() {
            if (ate("not")) {
                Test t = plain();
                return words -> !t.of(words);
            }
            if (see().equals("(")) {
                if (open == 8) throw fault();
                open++;
                at++;
                Test t = test();
                eat(")");
                open--;
                return t;
            }
            Num l = sum();
            if (ate("<")) {
                Num r = sum();
                return words -> l.of(words) < r.of(words);
            }
            if (ate(">")) {
                Num r = sum();
                return words -> l.of(words) > r.of(words);
            }
            eat("=");
            Num r = sum();
            return words -> l.of(words) == r.of(words);
        }

        static long sound(long x) {
            if (Math.abs(x) > 1000000000L) throw new Broken();
            return x;
        }

        Num sum() {
            Num left = term();
            while (see().equals("+") || see().equals("-")) {
                boolean plus = tokens.get(at++).equals("+");
                Num l = left;
                Num r = term();
                left = words -> {
                    long a = l.of(words);
                    long b = r.of(words);
                    return sound(plus ? a + b : a - b);
                };
            }
            return left;
        }

        Num term() {
            Num left = part();
            while (see().equals("*") || see().equals("/") || see().equals("%")) {
                String sign = tokens.get(at++);
                Num l = left;
                Num r = part();
                left = words -> {
                    long a = l.of(words);
                    long b = r.of(words);
                    if (sign.equals("*")) return sound(a * b);
                    if (b == 0) throw new Broken();
                    long cut = Math.abs(a) / Math.abs(b) * (a < 0 == b < 0 ? 1 : -1);
                    return sign.equals("/") ? cut : a - cut * b;
                };
            }
            return left;
        }

        Num part() {
            if (see().equals("[")) {
                if (open == 8) throw fault();
                open++;
                at++;
                Num n = sum();
                eat("]");
                open--;
                return n;
            }
            if (parts == 50) throw fault();
            if (see().matches("[0-9]+")) {
                int n = number(0, 1000);
                parts++;
                return words -> n;
            }
            String w = see();
            List<String> known = orders ? Arrays.asList("day", "turns", "life", "done", "ended", "little", "left")
                    : Arrays.asList("turns", "power", "hour", "person", "oil", "little", "life", "day", "mood");
            if (!known.contains(w)) throw fault();
            at++;
            parts++;
            if (orders && (w.equals("little") || w.equals("left"))) {
                String key = w + number(0, w.equals("little") ? 5 : 9);
                return words -> words.get(key);
            }
            return words -> words.get(w);
        }
    }

    int law() {
        byte[] t = take();
        if (s.laws.size() == 6) return no(-5);
        try {
            s.laws.add(new Parser(t, false).all());
        } catch (Fault f) {
            fault = f.at;
            return no(-6);
        }
        fault = -1;
        return ok(s.laws.size() - 1);
    }

    int orders() {
        byte[] t = take();
        List<Clause> clauses;
        stopped = -1;
        try {
            clauses = new Parser(t, true).all();
        } catch (Fault f) {
            fault = f.at;
            return no(-6);
        }
        fault = -1;
        State before = s.copy();
        List<Undone> undoBefore = new ArrayList<>(undo);
        int done = 0;
        int ended = -1;
        int clause = 0;
        try {
            for (; clause < clauses.size(); clause++) {
                Clause c = clauses.get(clause);
                for (int i = 0; i < c.times; i++) {
                    Map<String, Long> words = new HashMap<>();
                    words.put("day", (long) s.day);
                    words.put("turns", (long) s.turns);
                    words.put("life", (long) s.life);
                    words.put("done", (long) done);
                    words.put("ended", (long) ended);
                    for (int p = 0; p < 6; p++) words.put("little" + p, isPerson(p) ? s.people.get(p).little : -1L);
                    for (int w = 0; w < 10; w++) {
                        words.put("left" + w, isWork(w) ? (long) s.works.get(w).minutes - s.works.get(w).done : -1L);
                    }
                    if (!c.isSo(words)) continue;
                    int a = c.sum == null ? 0 : (int) c.sum.of(words);
                    int b = c.second == null ? 0 : (int) c.second.of(words);
                    if (c.kind.equals("wind")) doWind(a);
                    if (c.kind.equals("key")) doKey(a, b);
                    if (c.kind.equals("run")) ended = doRun();
                    if (c.kind.equals("mend")) doMend(a);
                    done++;
                }
            }
        } catch (Broken | Refused r) {
            s = before;
            undo = undoBefore;
            stopped = clause;
            return no(-3);
        }
        return ok(done);
    }

    int force(int law) {
        if (law != -1 && !in(law, 0, s.laws.size() - 1)) return no(-2);
        int was = s.force;
        s.force = law;
        return ok(was);
    }

    // ---------------------------------------------------------------- what the law tells

    static Long told(State s, String kind, Map<String, Long> words) {
        Long told = null;
        if (s.force == -1) return null;
        for (Clause c : s.laws.get(s.force)) {
            if (!c.kind.equals(kind) || !c.isSo(words)) continue;
            try {
                told = c.sum == null ? 1 : c.sum.of(words);
            } catch (Broken b) {
                continue;
            }
        }
        return told;
    }

    static Map<String, Long> words(State s, int turns, int power, int hour, int person, int oil, int little) {
        Map<String, Long> w = new HashMap<>();
        w.put("turns", (long) turns);
        w.put("power", (long) power);
        w.put("hour", (long) hour);
        w.put("person", (long) person);
        w.put("oil", (long) oil);
        w.put("little", (long) little);
        w.put("life", (long) s.life);
        w.put("day", (long) s.day);
        w.put("mood", (long) s.mood);
        return w;
    }

    static int near(long x, int most) {
        return x < 0 ? 0 : x > most ? most : (int) x;
    }

    static int wears(State s, int turns) {
        Long t = told(s, "wears", words(s, turns, -1, -1, -1, -1, -1));
        return t == null ? turns * turns : near(t, 999);
    }

    static int snaps(State s, int turns) {
        Long t = told(s, "snaps", words(s, turns, -1, -1, -1, -1, -1));
        return t == null ? Math.max(0, turns - 9) * 10 : near(t, 100);
    }

    int asks(int turns, int what) {
        if (!in(turns, 0, 12)) return -1;
        return what == 0 ? wears(s, turns) : what == 1 ? snaps(s, turns) : -1;
    }

    // ---------------------------------------------------------------- a day

    static final class Paper {
        final int[] power = new int[25];
        final int[][] speed;
        /** By hours: what is done at the end of it. */
        final int[][] done;
        final int[] ends;

        Paper(State s, int turns, List<Integer> order) {
            speed = new int[24][s.people.size()];
            done = new int[24][s.works.size()];
            ends = new int[s.works.size()];
            Arrays.fill(ends, -1);
            power[0] = turns * 100;
            int[] now = new int[s.works.size()];
            for (Work w : s.works) now[w.number] = w.done;
            for (int h = 0; h < 24; h++) {
                int[] morning = now.clone();
                for (int p = 0; p < s.people.size(); p++) {
                    Person who = s.people.get(p);
                    Long t = told(s, "speeds", words(s, turns, power[h], h, p, who.oil, who.little));
                    speed[h][p] = near(t == null ? power[h] / 10 + who.little * 5 : t, 60);
                    for (int i : order) {
                        Work w = s.works.get(i);
                        if (w.person != p || morning[i] == w.minutes) continue;
                        if (w.ahead != -1 && morning[w.ahead] < s.works.get(w.ahead).minutes) continue;
                        now[i] = Math.min(w.minutes, now[i] + speed[h][p]);
                        if (now[i] == w.minutes) ends[i] = h;
                        break;
                    }
                }
                done[h] = now.clone();
                Long r = told(s, "runs", words(s, turns, power[h], h, -1, -1, -1));
                power[h + 1] = Math.max(0, power[h] - (r == null ? 60 : near(r, 999)));
            }
        }

        Paper(State s, int turns) {
            this(s, turns, numbers(s));
        }

        static List<Integer> numbers(State s) {
            List<Integer> all = new ArrayList<>();
            for (Work w : s.works) all.add(w.number);
            return all;
        }

        boolean inTime(State s, int w) {
            return ends[w] != -1 && ends[w] <= s.works.get(w).due;
        }
    }

    static int runDay(State s) {
        Paper paper = new Paper(s, s.turns);
        int ended = 0;
        for (Work w : s.works) {
            w.done = paper.done[23][w.number];
            if (paper.ends[w.number] != -1) ended++;
        }
        s.day++;
        s.turns = -1;
        for (Person p : s.people) {
            p.oil = Math.max(0, p.oil - 1);
            p.little = Math.max(0, p.little - 1);
        }
        return ended;
    }

    private void keep(int kind) {
        undo.add(new Undone(kind, s.copy()));
        if (undo.size() > 16) undo.remove(0);
    }

    static void windNow(State s, int turns) {
        s.life = Math.max(0, s.life - wears(s, turns));
        if (s.life == 0) {
            s.snapped = true;
        } else {
            s.turns = turns;
        }
    }

    int doWind(int turns) {
        if (!in(turns, 0, 12)) throw new Refused(-1);
        if (s.turns != -1 || s.snapped || s.day % 7 == 6 && turns > s.sunday) throw new Refused(-3);
        keep(0);
        windNow(s, turns);
        return s.life;
    }

    int doKey(int person, int turns) {
        if (!in(turns, 1, 9)) throw new Refused(-1);
        if (!isPerson(person)) throw new Refused(-2);
        Person p = s.people.get(person);
        if (p.little + turns > 9) throw new Refused(-3);
        if (told(s, "bars", words(s, Math.max(s.turns, 0), -1, -1, person, p.oil, p.little + turns)) != null) {
            throw new Refused(-3);
        }
        keep(1);
        p = s.people.get(person);
        p.little += turns;
        return p.little;
    }

    int doRun() {
        if (s.turns == -1 || s.day == 999) throw new Refused(-3);
        keep(2);
        return runDay(s);
    }

    int doMend(int life) {
        if (!in(life, 1, 9999)) throw new Refused(-1);
        if (s.turns != -1) throw new Refused(-3);
        keep(3);
        s.life = Math.min(9999, s.life + life);
        s.snapped = false;
        return s.life;
    }

    int wind(int turns) {
        try {
            return ok(doWind(turns));
        } catch (Refused r) {
            return no(r.by);
        }
    }

    int key(int person, int turns) {
        try {
            return ok(doKey(person, turns));
        } catch (Refused r) {
            return no(r.by);
        }
    }

    int run() {
        try {
            return ok(doRun());
        } catch (Refused r) {
            return no(r.by);
        }
    }

    int mend(int life) {
        try {
            return ok(doMend(life));
        } catch (Refused r) {
            return no(r.by);
        }
    }

    int undo() {
        if (undo.isEmpty()) return no(-3);
        Undone u = undo.remove(undo.size() - 1);
        for (int p = 0; p < s.people.size(); p++) {
            s.people.get(p).oil = u.state.people.get(p).oil;
            s.people.get(p).little = u.state.people.get(p).little;
        }
        for (int w = 0; w < s.works.size(); w++) s.works.get(w).done = u.state.works.get(w).done;
        s.life = u.state.life;
        s.snapped = u.state.snapped;
        s.turns = u.state.turns;
        s.day = u.state.day;
        return ok(u.kind);
    }

    // ---------------------------------------------------------------- on paper

    int hour(int turns, int hour, int what) {
        if (!in(turns, 0, 12) || !in(hour, 0, 23) || !in(what, 0, s.people.size())) return -1;
        Paper p = new Paper(s, turns);
        return what == 0 ? p.power[hour] : p.speed[hour][what - 1];
    }

    int ends(int turns, int work, int what) {
        if (!in(turns, 0, 12) || !isWork(work) || !in(what, 0, 1)) return -1;
        Paper p = new Paper(s, turns);
        return what == 0 ? p.ends[work] : p.done[23][work];
    }

    int day(int turns, int what) {
        if (!in(turns, 0, 12) || !in(what, 0, 2)) return -1;
        Paper p = new Paper(s, turns);
        if (what == 0) {
            int from = 0;
            for (int h = 0; h < 24; h++) {
                if (Arrays.stream(p.speed[h]).anyMatch(v -> v > 0)) from = h + 1;
            }
            return from;
        }
        int sum = 0;
        for (Work w : s.works) {
            int end = p.done[23][w.number];
            if (what == 1 && p.inTime(s, w.number)) sum += w.worth;
            if (what == 2 && end > 0 && end < w.minutes) sum += 1 << w.number;
        }
        return sum;
    }

    int least(int works) {
        if (works < 0 || works >= Math.pow(2, s.works.size())) return -1;
        List<Integer> told = new ArrayList<>();
        for (int w = 0; w < 10; w++) if ((works & 1 << w) != 0) told.add(w);
        for (int w : told) if (s.works.get(w).all()) return -1;
        for (int t = 0; t <= 12; t++) {
            Paper p = new Paper(s, t);
            if (told.stream().allMatch(w -> p.inTime(s, w))) return t;
        }
        return -1;
    }

    static <T> List<List<T>> rows(List<T> of) {
        List<List<T>> all = new ArrayList<>();
        if (of.isEmpty()) {
            all.add(new ArrayList<>());
            return all;
        }
        for (T first : of) {
            List<T> rest = new ArrayList<>(of);
            rest.remove(first);
            for (List<T> row : rows(rest)) {
                row.add(0, first);
                all.add(row);
            }
        }
        return all;
    }

    int orderly(int person, int turns, int i) {
        if (!isPerson(person) || !in(turns, 0, 12)) return -1;
        List<Integer> mine = new ArrayList<>();
        for (Work w : s.works) if (w.person == person && !w.all()) mine.add(w.number);
        if (mine.size() > 6 || !in(i, -1, mine.size() - 1)) return -1;
        Paper base = new Paper(s, turns);
        int best = -1;
        List<Integer> bestRow = null;
        for (List<Integer> row : rows(mine)) {
            int[] left = new int[s.works.size()];
            int[] ended = new int[s.works.size()];
            for (Work w : s.works) {
                left[w.number] = w.minutes - w.done;
                ended[w.number] = w.all() ? -1 : w.person == person ? 99 : base.ends[w.number] == -1 ? 99 : base.ends[w.number];
            }
            for (int h = 0; h < 24; h++) {
                for (int n : row) {
                    int ahead = s.works.get(n).ahead;
                    if (left[n] == 0 || ahead != -1 && ended[ahead] >= h) continue;
                    left[n] = Math.max(0, left[n] - base.speed[h][person]);
                    if (left[n] == 0) ended[n] = h;
                    break;
                }
            }
            int worth = 0;
            for (int n : row) if (ended[n] <= s.works.get(n).due) worth += s.works.get(n).worth;
            if (worth > best) {
                best = worth;
                bestRow = row;
            }
        }
        return i == -1 ? best : bestRow.get(i);
    }

    int little(int work, int turns) {
        if (!isWork(work) || !in(turns, 0, 12) || s.works.get(work).all()) return -1;
        int person = s.works.get(work).person;
        for (int m = 0; s.people.get(person).little + m <= 9; m++) {
            State t = s.copy();
            t.people.get(person).little += m;
            if (new Paper(t, turns).inTime(t, work)) return m;
        }
        return -1;
    }

    int lasts(int turns) {
        if (!in(turns, 0, 12)) return -1;
        if (s.snapped) return 0;
        State t = s.copy();
        int days = 0;
        while (days < 999) {
            t.life -= wears(t, turns);
            if (t.life <= 0) return days;
            days++;
            t.day++;
        }
        return -1;
    }

    long odds(int turns, int n) {
        if (!in(turns, 0, 12) || !in(n, 0, 60)) return -1;
        State t = s.copy();
        long left = 1000000000000L;
        for (int i = 0; i < n; i++) {
            left -= left * snaps(t, turns) / 100;
            t.life = Math.max(0, t.life - wears(t, turns));
            t.day++;
        }
        return left;
    }

    int sight(int work, int hour, int minutes) {
        if (!in(hour, 0, 23) || !in(minutes, 0, 600)) return no(-1);
        if (!isWork(work)) return no(-2);
        if (s.sights.size() == 8) return no(-5);
        s.sights.add(new int[] {work, hour, minutes});
        return ok(s.sights.size());
    }

    int forget() {
        int had = s.sights.size();
        s.sights.clear();
        return had;
    }

    int fits() {
        int bits = 0;
        for (int t = 0; t <= 12; t++) {
            Paper p = new Paper(s, t);
            if (s.sights.stream().allMatch(x -> p.done[x[1]][x[0]] == x[2])) bits += 1 << t;
        }
        return bits;
    }

    int guards(int what) {
        if (!in(what, 0, 1)) return -1;
        for (int many = 0; many <= 8; many++) {
            for (int bits = 0; bits < 256; bits++) {
                if (Integer.bitCount(bits) != many) continue;
                boolean all = true;
                for (int a = 0; a < 8; a++) {
                    for (int b = 0; b < a; b++) {
                        if (s.road(a, b) > 0 && (bits >> a & 1) == 0 && (bits >> b & 1) == 0) all = false;
                    }
                }
                if (all) return what == 0 ? many : bits;
            }
        }
        throw new IllegalStateException();
    }

    int round(int places, int i) {
        if (!in(places, 0, 255) || i < -1) return -1;
        long[][] d = new long[8][8];
        for (int a = 0; a < 8; a++) {
            for (int b = 0; b < 8; b++) d[a][b] = a == b ? 0 : s.road(a, b) > 0 ? s.road(a, b) : 1L << 40;
        }
        for (int more = 0; more < 8; more++) {
            for (int a = 0; a < 8; a++) {
                for (int b = 0; b < 8; b++) {
                    for (int c = 0; c < 8; c++) d[a][b] = Math.min(d[a][b], d[a][c] + d[c][b]);
                }
            }
        }
        List<Integer> told = new ArrayList<>();
        for (int p = 0; p < 8; p++) if ((places >> p & 1) == 1) told.add(p);
        long best = 1L << 40;
        List<Integer> bestRow = null;
        for (List<Integer> row : rows(told)) {
            long sum = 0;
            int from = 0;
            for (int p : row) {
                sum += d[from][p];
                from = p;
            }
            sum += d[from][0];
            if (sum < best) {
                best = sum;
                bestRow = row;
            }
        }
        if (bestRow == null) return -1;
        return i == -1 ? (int) best : i < bestRow.size() ? bestRow.get(i) : -1;
    }

    int game(int n) {
        return in(n, 0, 12) ? wins(n) : -1;
    }

    private int wins(int n) {
        for (int t = 1; t <= 3; t++) if (n + t <= 12 && wins(n + t) == 0) return t;
        return 0;
    }

    int decade(int seed, int n) {
        if (!in(seed, 0, 1000000) || !in(n, 1, 60)) return no(-1);
        State t = s.copy();
        Drawn d = new Drawn();
        d.end = t;
        long[] r = {seed};
        int ended = 0;
        for (int i = 0; i < n; i++) {
            if (t.day == 999) break;
            if (t.turns == -1 && !t.snapped) {
                int turns = (int) draw(r, 13);
                if (t.day % 7 == 6) turns = Math.min(turns, t.sunday);
                if (draw(r, 100) < snaps(t, turns)) {
                    t.snapped = true;
                } else {
                    windNow(t, turns);
                }
            }
            if (t.turns != -1) {
                ended += runDay(t);
                d.ran++;
            } else {
                t.day++;
            }
        }
        drawn = d;
        return ok(ended);
    }

    private static long draw(long[] s, int m) {
        s[0] = (s[0] * 1103 + 12345) % 1000003;
        return s[0] % m;
    }

    int drawn(int what) {
        if (drawn == null) return -1;
        if (what == 0) return drawn.end.life;
        if (what == 1) return drawn.end.snapped ? 1 : 0;
        if (what == 2) return drawn.end.day;
        if (what == 3) return drawn.ran;
        return in(what, 4, 3 + drawn.end.works.size()) ? drawn.end.works.get(what - 4).done : -1;
    }

    int image(int k) {
        if (!in(k, 0, 1)) return no(-1);
        images[k] = s.copy();
        return ok(0);
    }

    int back(int k) {
        if (!in(k, 0, 1)) return no(-1);
        if (images[k] == null) return no(-2);
        s = images[k].copy();
        undo.clear();
        return ok(0);
    }

    int count(int what) {
        int[] all = {s.people.size(), s.works.size(), s.sights.size(), s.laws.size(), undo.size(), tape.length,
            refusals[1], refusals[2], refusals[3], refusals[5], refusals[6], s.force, s.life, s.snapped ? 1 : 0,
            s.turns, s.day, s.sunday, s.mood};
        return in(what, 0, 17) ? all[what] : -1;
    }
}
