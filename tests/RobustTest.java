import java.lang.reflect.InvocationTargetException;
import java.lang.reflect.Method;
import java.lang.reflect.Modifier;
import java.util.ArrayList;
import java.util.Comparator;
import java.util.List;
import java.util.Random;

/**
 * No call throws, for any arguments in any state; the same calls give the same answers; a run makes few objects.
 * (LANGUAGE.md, rules 7, 12 and 13.)
 */
public final class RobustTest {
    private static final int[] ODD = {Integer.MIN_VALUE, Integer.MIN_VALUE + 1, -1000, -3, -2, -1, 0, 1, 2, 3, 4, 5, 6, 7, 8, 9,
        10, 11, 12, 13, 16, 23, 24, 31, 32, 60, 61, 99, 100, 255, 256, 400, 401, 600, 601, 999, 1000, 1001, 1023, 1024, 9999,
        10000, 65535, 1000000, 1000001, 1 << 30, Integer.MAX_VALUE - 1, Integer.MAX_VALUE};

    private static final List<Method> CALLS = new ArrayList<>();

    public static void main(String[] args) throws ReflectiveOperationException {
        for (Method m : WoundTown.class.getDeclaredMethods()) {
            if (Modifier.isPublic(m.getModifiers())) CALLS.add(m);
        }
        CALLS.sort(Comparator.comparing(Method::getName));
        for (int seed = 0; seed < 400; seed++) {
            long once = run(seed);
            if (seed % 20 == 0) Due.due("seed " + seed + ": the same answers", run(seed), once);
        }
        dearest();
        Due.finish();
    }

    private static long run(int seed) throws ReflectiveOperationException {
        Random random = new Random(seed);
        WoundTown x = new WoundTown();
        for (int p = 0; p < random.nextInt(7); p++) x.person(random.nextInt(10), random.nextInt(8));
        for (int w = 0; w < random.nextInt(11); w++) x.work(w % 2, 1 + random.nextInt(200), 5, 5, w - 1);
        long sum = 0;
        for (int call = 0; call < 480; call++) {
            if (random.nextInt(10) == 0) Due.bytes(x, noise(random));
            Method m = CALLS.get(random.nextInt(CALLS.size()));
            Object[] given = new Object[m.getParameterCount()];
            for (int i = 0; i < given.length; i++) {
                given[i] = random.nextInt(3) == 0 ? ODD[random.nextInt(ODD.length)]
                        : m.getName().equals("feed") ? random.nextInt() : random.nextInt(13) - 1;
            }
            try {
                sum = sum * 31 + ((Number) m.invoke(x, given)).longValue();
            } catch (InvocationTargetException e) {
                System.out.println("seed " + seed + ", call " + call + ": " + m + " " + java.util.Arrays.toString(given));
                e.getCause().printStackTrace(System.out);
                Due.due("threw", 1, 0);
                return 0;
            }
        }
        return sum;
    }

    private static byte[] noise(Random random) {
        String[] pieces = {"runs ", "speeds ", "wears ", "snaps ", "bars ", "if ", "wind ", "key ", "by ", "mend ", "run ",
            "times ", "1", "2", "1000", "turns ", "power ", "hour ", "little ", "left ", "0", "+", "-", "*", "/", "%", "[",
            "]", "(", ")", "<", "=", ">", "not ", "and ", "or ", ";", " ", "\0", "~"};
        StringBuilder text = new StringBuilder();
        int many = random.nextInt(60);
        for (int i = 0; i < many; i++) text.append(pieces[random.nextInt(pieces.length)]);
        byte[] all = text.toString().getBytes(java.nio.charset.StandardCharsets.ISO_8859_1);
        return java.util.Arrays.copyOf(all, Math.min(400, all.length));
    }

    private static long allocated() {
        return ((com.sun.management.ThreadMXBean) java.lang.management.ManagementFactory.getThreadMXBean())
                .getThreadAllocatedBytes(Thread.currentThread().getId());
    }

    /** What 512 calls of the dearest kinds make, in bytes. */
    private static void dearest() {
        StringBuilder law = new StringBuilder("runs 1");
        for (int i = 0; i < 24; i++) law.append("+[1]*1");
        for (int turn = 0; turn < 2; turn++) {
            WoundTown x = null;
            long before = allocated();
            x = new WoundTown();
            long fresh = allocated() - before;
            x.image(0);
            byte[] bytes = law.toString().getBytes(java.nio.charset.StandardCharsets.US_ASCII);
            int[] n = new int[50];
            for (int i = 0; i < 200; i++) n[i / 4] = n[i / 4] << 8 | (i < bytes.length ? bytes[i] : ' ');
            before = allocated();
            for (int i = 0; i < 42; i++) {
                for (int k = 0; k < 50; k += 5) x.feed(n[k], n[k + 1], n[k + 2], n[k + 3], n[k + 4]);
                x.law();
                x.back(0);
            }
            long laws = allocated() - before;
            for (int p = 0; p < 6; p++) x.person(5, p);
            for (int w = 0; w < 10; w++) x.work(w % 6, 600, 23, 9, w - 1);
            before = allocated();
            for (int i = 0; i < 30; i++) {
                x.decade(i, 60);
                x.least(1023);
                x.fits();
                x.orderly(0, 12, -1);
                x.round(255, -1);
                x.little(3, 3);
                x.lasts(1);
                x.odds(12, 60);
                x.image(1);
                x.back(1);
                x.wind(1);
                x.run();
                x.undo();
            }
            long rest = allocated() - before;
            if (turn == 1) {
                System.out.println("bytes: a new object " + fresh + ", 42 laws " + laws + ", the rest " + rest);
                Due.due("a new object is small", fresh < 60000 ? 1 : 0, 1);
                Due.due("laws are small", laws < 200000 ? 1 : 0, 1);
                Due.due("the rest makes nothing but an image", rest < 5000 ? 1 : 0, 1);
            }
        }
    }
}
