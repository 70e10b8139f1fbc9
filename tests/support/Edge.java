import java.util.ArrayList;
import java.util.List;
import java.util.Map;

/**
 * Calls at a boundary. Each is made of a town that was made anew, and all that can be seen of it is compared with
 * another town that was made alike and to which the call was not made. No town is used for more than 512 calls.
 */
final class Edge {
    interface Setting {
        void of(WoundTown x);
    }

    interface Call {
        long on(WoundTown x);
    }

    private static final int[] REFUSALS = {-1, -2, -3, -5, -6};

    private Edge() {
    }

    /** A town in which there is something of everything; it is not WOUND, three of its doings can be undone. */
    static void rich(WoundTown x) {
        x.person(3, 1);
        x.person(5, 2);
        x.work(0, 100, 20, 9, -1);
        x.work(1, 80, 21, 8, 0);
        x.work(0, 600, 22, 7, -1);
        x.road(0, 1, 10);
        x.road(1, 2, 20);
        x.road(5, 7, 99);
        x.sight(0, 1, 50);
        Due.force(x, "wears turns + 1; snaps turns; runs 50; bars if little > 8");
        Due.law(x, "wears 7; snaps 3");
        x.terms(1, 8);
        x.terms(2, 4);
        Due.bytes(x, new byte[] {1, 40, 3, 4, 9});
        x.row();
        x.image(0);
        x.decade(5, 3);
        x.key(0, 2);
        x.wind(6);
        x.run();
        Due.orders(x, "mend 1; run");
        Due.law(x, "runs ?");
        Due.bytes(x, new byte[] {0, 30, 2, 1, 1, 31, 3, 2});
    }

    /** The same town, WOUND by 6. */
    static void wound(WoundTown x) {
        rich(x);
        x.wind(6);
    }

    static void fresh(WoundTown x) {
    }

    /** REFUSED by so much: that is answered, status() tells it, it is counted, and all else is as it was. */
    static void refused(String what, Setting setting, Call call, int by) {
        refusedBut(what, setting, call, by, Edge::fresh);
    }

    /** As refused(), but for what another call changes alike: a TAPE is empty even then. */
    static void refusedBut(String what, Setting setting, Call call, int by, Setting but, String... unlike) {
        WoundTown x = new WoundTown();
        setting.of(x);
        Due.due(what, call.on(x), by);
        Due.due(what + ": status()", x.status(), by);
        WoundTown y = new WoundTown();
        setting.of(y);
        but.of(y);
        Map<String, Long> want = Whole.of(y);
        for (int i = 0; i < REFUSALS.length; i++) {
            if (REFUSALS[i] == by) want.merge("count(" + (6 + i) + ")", 1L, Long::sum);
        }
        want.put("status()", (long) by);
        compare(what, Whole.of(x), want, List.of(unlike));
    }

    /** So much is answered, which is no refusal, and all is as it was, status(), too. */
    static void asked(String what, Setting setting, Call call, long answer) {
        WoundTown x = new WoundTown();
        setting.of(x);
        Due.due(what, call.on(x), answer);
        WoundTown y = new WoundTown();
        setting.of(y);
        compare(what, Whole.of(x), Whole.of(y), new ArrayList<>());
    }

    static void none(String what, Setting setting, Call call) {
        asked(what, setting, call, WoundTown.NONE);
    }

    /** It can be: so much is answered, status() is 0. */
    static void taken(String what, Setting setting, Call call, long answer) {
        WoundTown x = new WoundTown();
        setting.of(x);
        Due.due(what, call.on(x), answer);
        Due.due(what + ": status()", x.status(), 0);
    }

    private static void compare(String what, Map<String, Long> got, Map<String, Long> want, List<String> unlike) {
        Due.due(what + ": as much can be seen", got.size(), want.size());
        for (Map.Entry<String, Long> one : want.entrySet()) {
            if (unlike.contains(one.getKey())) continue;
            Long seen = got.get(one.getKey());
            Due.due(what + ": " + one.getKey(), seen == null ? Long.MIN_VALUE : seen, one.getValue());
        }
    }

    static String repeated(String text, int times) {
        StringBuilder all = new StringBuilder();
        for (int i = 0; i < times; i++) all.append(text);
        return all.toString();
    }
}
