import java.nio.charset.StandardCharsets;

/** Counts answers that are not due, and feeds texts. */
final class Check {
    private int wrong;
    private int asked;

    void due(String call, long got, long want) {
        asked++;
        if (got != want) {
            wrong++;
            if (wrong <= 40) {
                System.out.println(call + " answered " + got + ", due is " + want);
            }
        }
    }

    void due(String call, boolean got, boolean want) {
        due(call, got ? 1 : 0, want ? 1 : 0);
    }

    int wrong() {
        return wrong;
    }

    /** Ends the program: with code 1 if there was a wrong answer. */
    void close(String name) {
        System.out.println(name + ": " + (asked - wrong) + " passed, " + wrong + " failed");
        if (wrong != 0 || asked == 0) {
            System.exit(1);
        }
    }

    /** The tape has these bytes alone behind it. */
    static void tape(ShakenBread x, byte[] bytes) {
        x.end(0);
        for (int i = 0; i < bytes.length; i += 20) {
            x.feed(four(bytes, i), four(bytes, i + 4), four(bytes, i + 8), four(bytes, i + 12), four(bytes, i + 16));
        }
        x.end(bytes.length);
    }

    private static int four(byte[] bytes, int at) {
        int n = 0;
        for (int i = at; i < at + 4; i++) {
            n = n << 8 | (i < bytes.length ? bytes[i] & 255 : 0);
        }
        return n;
    }

    static int text(ShakenBread x, int sort, int at, String text) {
        tape(x, text.getBytes(StandardCharsets.ISO_8859_1));
        return x.text(sort, at);
    }

    /** A text on a new object: its fault and its place, by which it is taken or not. */
    void dueFault(int sort, String text, int kind, int place) {
        ShakenBread x = new ShakenBread();
        due("text " + text, text(x, sort, -1, text), kind == 0 ? 0 : -1);
        due("fault 0 of " + text, x.fault(0), kind);
        due("fault 1 of " + text, x.fault(1), place);
        due("count after " + text, x.count(sort), kind == 0 ? 1 : 0);
        due("tape after " + text, x.end(1), -1);
    }

    /** A new object with a town, and a book if there is one. */
    static ShakenBread with(String town, String... books) {
        ShakenBread x = new ShakenBread();
        text(x, 0, -1, town);
        for (String book : books) {
            text(x, 1, -1, book);
        }
        return x;
    }

    /** How many methods there are for call: feed, end and text, the questions, image and again. */
    static final int METHODS = 36;
    static final int FIRST_QUESTION = 3;
    static final int LAST_QUESTION = 33;

    /** Any method by any numbers. */
    static long call(ShakenBread x, int method, int a, int b, int d, int e, int f) {
        boolean yes = (f & 1) != 0;
        switch (method) {
            case 0: return x.feed(a, b, d, e, f);
            case 1: return x.end(a);
            case 2: return x.text(a, b);
            case 3: return x.fault(a);
            case 4: return x.town(a, b);
            case 5: return x.person(a, b, d);
            case 6: return x.note(a, b, d);
            case 7: return x.at(a, b, d, e);
            case 8: return x.hour(a, b, d);
            case 9: return x.run(a, b);
            case 10: return x.fate(a, b, d);
            case 11: return x.gloves(a);
            case 12: return x.order(a, b);
            case 13: return x.walk(a, b, d, e, f);
            case 14: return x.feeds(a, yes);
            case 15: return x.peace(a);
            case 16: return x.loaf(a, b, d, e, f);
            case 17: return x.wedding(a, b, d, e);
            case 18: return x.stays(a, b, d);
            case 19: return x.painted(a, b, d, e);
            case 20: return x.fever(a, b, d, e);
            case 21: return x.drawn(a, b, d, e);
            case 22: return x.worlds(a, b, d);
            case 23: return x.pocket(a, b, d, e, yes);
            case 24: return x.search(a, b, d);
            case 25: return x.news(a, b, d);
            case 26: return x.aid(a, b);
            case 27: return x.hunger(a, yes);
            case 28: return x.swap(a, b);
            case 29: return x.wed(a, yes);
            case 30: return x.tunnel(a, b, d, yes);
            case 31: return x.richest(a, b);
            case 32: return x.miser(a, b);
            case 33: return x.count(a);
            case 34: return x.image(a) ? 1 : 0;
            default: return x.again(a) ? 1 : 0;
        }
    }
}
