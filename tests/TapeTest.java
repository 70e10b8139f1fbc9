/** Promises 9 to 12: feed, end, row, dust. */
public final class TapeTest {
    public static void main(String[] args) {
        feed();
        bytesAsFed();
        end();
        row();
        dust();
        Due.finish();
    }

    private static void feed() {
        WoundTown x = new WoundTown();
        for (int n = 20; n <= 400; n += 20) {
            Due.due("feed to " + n, x.feed(0, 0, 0, 0, 0), n);
        }
        Due.due("feed beyond 400", x.feed(0, 0, 0, 0, 0), -1);
        Due.due("count(5)", x.count(5), 400);
        x.end(381);
        Due.due("feed at 381", x.feed(0, 0, 0, 0, 0), -1);
        Due.due("count(5) at 381", x.count(5), 381);
        x.end(380);
        Due.due("feed at 380", x.feed(0, 0, 0, 0, 0), 400);
        Due.due("feed is not among what status() tells", x.status(), 0);
        Due.due("nor is it counted", x.count(6) + x.count(9), 0);
    }

    /** The highest byte first: 1, 2, 3, 4 is a WORK of person 1, 2 minutes, due 3, worth 4. */
    private static void bytesAsFed() {
        WoundTown x = new WoundTown();
        for (int p = 0; p < 6; p++) x.person(0, 0);
        x.feed(0x01020304, 0x00FF1763, 0x05800001, 0x02010102, 0x03030303);
        Due.answered(x, "row()", x.row(), 5);
        int[][] want = {{1, 2, 3, 4}, {0, 255, 23, 99}, {5, 128, 0, 1}, {2, 1, 1, 2}, {3, 3, 3, 3}};
        for (int w = 0; w < 5; w++) {
            for (int what = 0; what < 4; what++) {
                Due.due("at(" + w + ", " + what + ")", x.at(w, what), want[w][what]);
            }
            Due.due("at(" + w + ", 4)", x.at(w, 4), -1);
            Due.due("at(" + w + ", 5)", x.at(w, 5), 0);
        }
    }

    private static void end() {
        WoundTown x = new WoundTown();
        Due.due("end(0) of none", x.end(0), 0);
        Due.due("end(1) of none", x.end(1), -1);
        x.feed(0x00010101, 0x00020202, 0, 0, 0);
        Due.due("end(-1)", x.end(-1), -1);
        Due.due("end(21)", x.end(21), -1);
        Due.due("count(5)", x.count(5), 20);
        Due.due("end(20)", x.end(20), 20);
        Due.due("end(8)", x.end(8), 8);
        Due.due("end(9)", x.end(9), -1);
        x.person(0, 0);
        Due.due("the first bytes are kept", x.row(), 2);
        Due.due("at(1, 1)", x.at(1, 1), 2);
        x.feed(0x00030303, 0, 0, 0, 0);
        x.end(2);
        x.feed(0x04040000, 0, 0, 0, 0);
        x.end(4);
        Due.due("new bytes come behind those that are kept", x.row(), 1);
        Due.due("at(2, 1)", x.at(2, 1), 3);
        Due.due("at(2, 2)", x.at(2, 2), 4);
    }

    private static void row() {
        WoundTown x = new WoundTown();
        Due.refused(x, "row() of none", x.row(), -6);
        x.person(0, 0);
        Due.bytes(x, new byte[] {0, 5, 5, 5, 0, 6, 6});
        Due.answered(x, "row() that ends within", x.row(), 1);
        Due.due("dust()", x.dust(), 1);
        Due.due("the tape is empty", x.count(5), 0);
        Due.bytes(x, new byte[] {1, 5, 5, 5, 0, 0, 5, 5, 0, 1, 24, 5, 0, 1, 5, 0, 0, 1, 5, 100, (byte) 128, 1, 5, 5});
        Due.answered(x, "row() of dust alone", x.row(), 0);
        Due.due("dust()", x.dust(), 6);
        Due.due("count(1)", x.count(1), 1);
        byte[] many = new byte[44];
        for (int i = 0; i < 44; i += 4) {
            many[i + 1] = (byte) (i + 1);
            many[i + 3] = 1;
        }
        Due.bytes(x, many);
        Due.answered(x, "row() of eleven, room for nine", x.row(), 9);
        Due.due("dust()", x.dust(), 2);
        Due.due("at(9, 1)", x.at(9, 1), 33);
        Due.due("count(1)", x.count(1), 10);
    }

    private static void dust() {
        WoundTown x = new WoundTown();
        x.person(0, 0);
        Due.due("dust() ahead of any", x.dust(), 0);
        Due.bytes(x, new byte[] {9});
        x.row();
        Due.due("dust()", x.dust(), 1);
        x.row();
        Due.due("dust() behind a row() that was refused", x.dust(), 1);
        x.image(0);
        Due.bytes(x, new byte[] {9, 9, 9, 9, 9});
        x.row();
        Due.due("dust()", x.dust(), 2);
        x.back(0);
        Due.due("images do not keep dust", x.dust(), 2);
        Due.bytes(x, new byte[] {0, 1, 1, 1});
        x.row();
        Due.due("dust() of none", x.dust(), 0);
    }
}
