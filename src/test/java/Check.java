import java.nio.charset.StandardCharsets;

/** Counts answers that are not due, and feeds texts. */
final class Check {
    private int wrong;
    private int asked;

    void due(String call, long got, long want) {
        asked++;
        if (got != want) {
            wrong++;
            if (wrong <= 40) {
                System.out.println(call + " answered " + got + ", due is " + want);
            }
        }
    }

    void due(String call, boolean got, boolean want) {
        due(call, got ? 1 : 0, want ? 1 : 0);
    }

    int wrong() {
        return wrong;
    }

    /** Ends the program: with code 1 if there was a wrong answer. */
    void close(String name) {
        System.out.println(name + ": " + (asked - wrong) + " passed, " + wrong + " failed");
        if (wrong != 0 || asked == 0) {
            System.exit(1);
        }
    }

    /** The tape has these bytes alone behind it. */
    static void tape(ShakenBread x, byte[] bytes) {
        x.end(0);
        for (int i = 0; i < bytes.length; i += 20) {
            x.feed(four(bytes, i), four(bytes, i + 4), four(bytes, i + 8), four(bytes, i + 12), four(bytes, i + 16));
        }
        x.end(bytes.length);
    }

    private static int four(byte[] bytes, int at) {
        int n = 0;
        for (int i = at; i < at + 4; i++) {
            n = n << 8 | (i < bytes.length ? bytes[i] & 255 : 0);
        }
        return n;
    }

    static int text(ShakenBread x, int sort, int at, String text) {
        tape(x, text.getBytes(StandardCharsets.ISO_8859_1));
        return x.text(sort, at);
    }

    /** A text on a new object: its fault and its place, by which it is taken or not. */
    void dueFault(int sort, String text, int kind, int place) {
        ShakenBread x = new ShakenBread();
        due("text " + text, text(x, sort, -1, text), kind == 0 ? 0 : -1);
        due("fault 0 of " + text, x.fault(0), kind);
        due("fault 1 of " + text, x.fault(1), place);
        due("count after " + text, x.count(sort), kind == 0 ? 1 : 0);
        due("tape after " + text, x.end(1), -1);
    }

    /** A new object with a town, and a book if there is one. */
    static ShakenBread with(String town, String... books) {
        ShakenBread x = new ShakenBread();
        text(x, 0, -1, town);
        for (String book : books) {
            text(x, 1, -1, book);
        }
        return x;
    }
}
