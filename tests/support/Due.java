import java.nio.charset.StandardCharsets;

/** Counts answers that are not as due; puts texts on the tape. */
final class Due {
    private static int wrong = 0;
    private static int asked = 0;

    private Due() {
    }

    static void due(String call, long got, long want) {
        asked++;
        if (got != want) {
            wrong++;
            if (wrong <= 50) {
                System.out.println(call + " answered " + got + ", due is " + want);
            }
        }
    }

    /** The call was REFUSED by so much: the answer, and what status() tells. */
    static void refused(WoundTown town, String call, long got, int by) {
        due(call, got, by);
        due(call + ", status()", town.status(), by);
    }

    /** The call answered so, and was not REFUSED. */
    static void answered(WoundTown town, String call, long got, long want) {
        due(call, got, want);
        due(call + ", status()", town.status(), 0);
    }

    /** The tape becomes this text (signs 0 .. 255) alone. */
    static void tape(WoundTown town, String text) {
        bytes(town, text.getBytes(StandardCharsets.ISO_8859_1));
    }

    static void bytes(WoundTown town, byte[] bytes) {
        town.end(0);
        for (int from = 0; from < bytes.length; from += 20) {
            int[] n = new int[5];
            for (int i = 0; i < 20; i++) {
                int b = from + i < bytes.length ? bytes[from + i] & 255 : ' ';
                n[i / 4] = n[i / 4] << 8 | b;
            }
            town.feed(n[0], n[1], n[2], n[3], n[4]);
        }
        town.end(bytes.length);
    }

    static int law(WoundTown town, String text) {
        tape(town, text);
        return town.law();
    }

    /** The text becomes a law, which is in force then. */
    static void force(WoundTown town, String text) {
        int law = law(town, text);
        due("law \"" + text + "\", fault()", town.fault(), -1);
        town.force(law);
        due("force of \"" + text + "\"", town.count(11), law);
    }

    static int orders(WoundTown town, String text) {
        tape(town, text);
        return town.orders();
    }

    static void finish() {
        System.out.println(wrong == 0 ? asked + " answers are as due" : wrong + " of " + asked + " are not as due");
        if (wrong != 0) {
            System.exit(1);
        }
    }
}
