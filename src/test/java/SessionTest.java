import java.util.ArrayList;
import java.util.List;
import java.util.Random;

/** Long runs of calls on one object: what it holds at each time is as in a new one that was told the same. */
public final class SessionTest {
    private static final int NONE = -1;
    /** The first of the three questions of Check.call() that take a TOWN and a BOOK. */
    private static final int BY_BOOK = 22;
    private static final Check c = new Check();
    private static final String[][] TEXTS = {
        {"", "law first;plain 0 3;plain 0 1;extra 0 2;", "hours 3;eat 1 1;shy 0 2;polite 0 1;extra 1 3;", "size 2 2;shy 3 9;",
            "law 3;", "hours 25;", "shy 9 0;", "hours 5;law last;plain 1 4;plain 1 0;quarrel 0 1;extra 0 1;extra 1 1;",
            "hours 24;eat 1 9;plain 0 30;polite 0 3;shy 0 9;gloved 0 9;plain 0 9;plain 0 9;plain 0 9;plain 1 9;extra 6 1;",
            "hours 2;eat 0 1;plain 0 1;plain 0 2;shy 0 3;", "hours 1;eat 2 1;plain 2 3;shy 2 1;gloved 2 2;extra 1 3;"},
        {"", "pocket 0 0 2;", "pocket 1 0 1;pocket 0 1 3;", "pocket 0 0 3;", "pocket 8 0 0;", "pocket", "pocket 0 2 1;"}};

    /** All that is told. */
    private static final class Held {
        final List<List<String>> texts = List.of(new ArrayList<>(), new ArrayList<>());
        String tape = "";
        int fault = 0;
        int place = NONE;

        Held copy() {
            Held h = new Held();
            h.texts.get(0).addAll(texts.get(0));
            h.texts.get(1).addAll(texts.get(1));
            h.tape = tape;
            h.fault = fault;
            h.place = place;
            return h;
        }

        ShakenBread anew() {
            ShakenBread x = new ShakenBread();
            for (int sort = 0; sort < 2; sort++) {
                for (String text : texts.get(sort)) {
                    Check.text(x, sort, NONE, text);
                }
            }
            return x;
        }
    }

    private static Held held = new Held();
    private static Held[] images = new Held[3];

    public static void main(String[] args) {
        Random r = new Random(35);
        for (int session = 0; session < 400; session++) {
            held = new Held();
            images = new Held[3];
            session(new ShakenBread(), r, 400);
        }
        secondOnes(r);
        c.close("SessionTest");
    }

    /** The second TOWN by the second BOOK answers like an only one by an only one. */
    private static void secondOnes(Random r) {
        for (int i = 0; i < TEXTS[0].length * TEXTS[0].length; i++) {
            String first = TEXTS[0][i / TEXTS[0].length];
            String second = TEXTS[0][i % TEXTS[0].length];
            String book = TEXTS[1][r.nextInt(TEXTS[1].length)];
            ShakenBread one = Check.with(second, book);
            ShakenBread two = Check.with(first, TEXTS[1][r.nextInt(4)], book);
            Check.text(two, 0, NONE, second);
            for (int k = 0; k < 500 && one.count(0) + one.count(1) == 2 && two.count(0) + two.count(1) == 4; k++) {
                int method = Check.FIRST_QUESTION + 1 + r.nextInt(Check.LAST_QUESTION - Check.FIRST_QUESTION - 1);
                boolean byBook = method == BY_BOOK || method == BY_BOOK + 1 || method == BY_BOOK + 2;
                int b = any(r);
                int d = any(r);
                int e = any(r);
                int f = any(r);
                c.due("the second of " + method + " " + b + " " + d + " " + e + " " + f,
                    Check.call(two, method, 1, byBook ? 1 : b, d, e, f), Check.call(one, method, 0, byBook ? 0 : b, d, e, f));
            }
        }
    }

    private static void session(ShakenBread x, Random r, int calls) {
        int call = 0;
        while (call < 60) {
            call += text(x, r);
        }
        ShakenBread same = held.anew();
        int asked = 0;
        while (call < calls) {
            int op = r.nextInt(12) > 0 ? r.nextInt(5) : 5 + r.nextInt(3);
            if (op < 4) {
                call++;
                asked++;
                ask(x, same, r);
            } else {
                call += op == 4 ? tape(x, r) : op == 5 ? text(x, r) : op == 6 ? image(x, r) : end(x, r);
            }
            if (op == 5 || op == 6 || asked > 400) {
                same = held.anew();
                asked = 0;
            }
        }
    }

    /** Mostly a number that is there. */
    private static int some(Random r) {
        return r.nextInt(4) == 0 ? r.nextInt(5) - 1 : r.nextInt(2);
    }

    /** Mostly some, or another hour, seed or what. */
    private static int any(Random r) {
        return r.nextInt(4) > 0 ? some(r) : r.nextInt(24);
    }

    /** Any question: what was asked ahead of it, of whichever town, makes no difference. */
    private static void ask(ShakenBread x, ShakenBread same, Random r) {
        int a = some(r);
        int b = any(r);
        int d = any(r);
        int e = any(r);
        int f = any(r);
        int method = Check.FIRST_QUESTION + r.nextInt(Check.LAST_QUESTION - Check.FIRST_QUESTION + 1);
        String call = "question " + method + " " + a + " " + b + " " + d + " " + e + " " + f;
        long got = Check.call(x, method, a, b, d, e, f);
        if (method == Check.FIRST_QUESTION) {
            c.due("fault " + a, got, a == 0 ? held.fault : a == 1 ? held.place : NONE);
        } else {
            c.due(call, got, Check.call(same, method, a, b, d, e, f));
        }
    }

    /** Twenty bytes of a text, or blanks. */
    private static int tape(ShakenBread x, Random r) {
        String[] of = TEXTS[r.nextInt(2)];
        String text = (of[r.nextInt(of.length)] + " ".repeat(20)).substring(0, 20);
        int[] n = new int[5];
        for (int i = 0; i < 20; i++) {
            n[i / 4] = n[i / 4] << 8 | text.charAt(i);
        }
        boolean fits = held.tape.length() <= 580;
        held.tape += fits ? text : "";
        c.due("feed", x.feed(n[0], n[1], n[2], n[3], n[4]), fits ? held.tape.length() : NONE);
        return 1;
    }

    private static int end(ShakenBread x, Random r) {
        int n = r.nextInt(4) == 0 ? r.nextInt(25) - 2 : held.tape.length();
        boolean can = n >= 0 && n <= held.tape.length();
        held.tape = can ? held.tape.substring(0, n) : held.tape;
        c.due("end", x.end(n), can ? n : NONE);
        return 1;
    }

    private static int text(ShakenBread x, Random r) {
        int sort = r.nextInt(9) == 0 ? 2 : r.nextInt(2);
        int at = r.nextInt(3) == 0 ? NONE : some(r);
        if (r.nextInt(4) > 0 && sort < 2) {
            held.tape = TEXTS[sort][r.nextInt(TEXTS[sort].length)];
            Check.tape(x, held.tape.getBytes());
        }
        int there = sort < 2 ? held.texts.get(sort).size() : 0;
        boolean none = sort == 2 || (at == NONE ? there == 2 : at >= there);
        ShakenBread reader = new ShakenBread();
        int read = none ? -2 : Check.text(reader, sort, NONE, held.tape);
        held.fault = none ? 0 : reader.fault(0);
        held.place = none ? NONE : reader.fault(1);
        int number = read < 0 ? read : at == NONE ? there : at;
        if (read == 0 && at == NONE) {
            held.texts.get(sort).add(held.tape);
        } else if (read == 0) {
            held.texts.get(sort).set(at, held.tape);
        }
        held.tape = "";
        c.due("text", x.text(sort, at), number);
        return 10;
    }

    private static int image(ShakenBread x, Random r) {
        int k = some(r);
        boolean can = k >= 0 && k < 3;
        if (r.nextBoolean()) {
            c.due("image", x.image(k), can);
            if (can) {
                images[k] = held.copy();
            }
        } else {
            c.due("again", x.again(k), can && images[k] != null);
            if (can && images[k] != null) {
                held = images[k].copy();
            }
        }
        return 1;
    }
}
