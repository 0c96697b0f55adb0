import java.util.ArrayList;
import java.util.List;

/** Each call that is refused: its answer, by one argument after another, and that it leaves all as it was. */
public final class RefusedTest {
    private static final int NONE = -1;
    private static final Check c = new Check();

    /** Three people, five hours, six cells, one quarrel: gloves, an order, a swap, peace and a miser are found. */
    private static final String TOWN = "size 2 3;hours 5;eat 1 2;law first;gloved 3 2;plain 3 3;polite 0 3;"
        + "errand 1 1 4;errand 2 0 3 4;quarrel 0 2;extra 0 2;";
    private static final String BOOK = "pocket 0 0 2;";
    private static final int HOURS = 5;
    private static final int PEOPLE = 3;
    private static final int CELLS = 6;

    private interface Call {
        int of(ShakenBread x, int[] a);
    }

    public static void main(String[] args) {
        for (int there = 1; there <= 2; there++) {
            told(there);
            runs(there);
            trials(there);
            hands(there);
            maybe(there);
            help(there);
        }
        tapeAndTexts();
        textsLeaveAllElse();
        images();
        peopleThere();
        c.close("RefusedTest");
    }

    /** So many towns and as many books, a fault, an image, and "law less;" on the tape. */
    private static ShakenBread made(int there) {
        ShakenBread x = new ShakenBread();
        for (int i = 0; i < there; i++) {
            Check.text(x, 0, NONE, TOWN);
            Check.text(x, 1, NONE, BOOK);
        }
        Check.text(x, 0, 0, "size 3 7;");
        x.image(1);
        x.feed(0x6c617720, 0x6c657373, 0x3b000000, 0, 0);
        x.end(9);
        return x;
    }

    /** What it answers to many questions, without a change. */
    private static List<Integer> print(ShakenBread x) {
        List<Integer> all = new ArrayList<>();
        all.add(x.fault(0));
        all.add(x.fault(1));
        all.add(x.end(10));
        all.add(x.end(9));
        for (int i = 0; i < 2; i++) {
            all.add(x.count(i));
            all.add(x.again(2 * i) ? 1 : 0);
            all.add(x.note(i, NONE, 0));
            all.add(x.note(i, 0, 2));
            all.add(x.worlds(i, 0, 0));
            for (int what = 0; what < 8; what++) {
                all.add(x.town(i, what));
                all.add(x.run(i, what));
            }
            for (int p = 0; p < PEOPLE; p++) {
                all.add(x.person(i, p, 4));
                all.add(x.at(i, HOURS - 1, p, 1));
            }
        }
        return all;
    }

    private static int[] with(int[] good, int i, int value) {
        int[] a = good.clone();
        a[i] = value;
        return a;
    }

    /** The last of all that are there is answered; one argument that isn't there, by itself, is not. */
    private static void refused(String name, int there, int answer, Call call, int[] good, int[]... bad) {
        ShakenBread x = made(there);
        List<Integer> ahead = print(x);
        c.due(name + " isn't refused", call.of(x, good) != answer, true);
        for (int i = 0; i < bad.length; i++) {
            for (int value : bad[i]) {
                c.due(name + " argument " + i + " is " + value, call.of(x, with(good, i, value)), answer);
            }
            for (int value : new int[] {Integer.MIN_VALUE, -1001, 1001, Integer.MAX_VALUE}) {
                if (bad[i].length > 0) {
                    c.due(name + " argument " + i + " is " + value, call.of(x, with(good, i, value)), answer);
                }
            }
        }
        c.due(name + " changed nothing", print(x).equals(ahead), true);
        c.due("the tape stays", x.text(0, 0), 0);
        c.due("the tape stays", x.town(0, 2), 2);
        c.due("the image stays", x.again(1), true);
        c.due("the image stays", x.town(0, 2), 1);
        c.due("the image's fault", x.fault(1), 7);
    }

    private static int[] but(int... values) {
        return values;
    }

    /** What doesn't matter: never refused. */
    private static final int[] ANY = {};

    private static void told(int there) {
        int last = there - 1;
        int[] town = but(-1, there, 2);
        int[] person = but(-1, PEOPLE, 8);
        refused("town", there, NONE, (x, a) -> x.town(a[0], a[1]), but(last, 7), town, but(-1, 8, 9, 11, 16, 19, 21, 26));
        refused("town", there, NONE, (x, a) -> x.town(a[0], a[1]), but(last, 10), town);
        refused("town", there, NONE, (x, a) -> x.town(a[0], a[1]), but(last, 20), town);
        refused("person", there, NONE, (x, a) -> x.person(a[0], a[1], a[2]), but(last, 2, 4), town, person,
            but(-1, 5, 9, 13, 22));
        refused("person", there, NONE, (x, a) -> x.person(a[0], a[1], a[2]), but(last, 2, 12), town, person);
        refused("note", there, -2, (x, a) -> x.note(a[0], a[1], a[2]), but(last, 0, 2), but(-1, there, 2),
            but(-2, -1, 1, 8), but(-1, 3));
        refused("notes", there, -2, (x, a) -> x.note(a[0], a[1], a[2]), but(last, NONE, 0), but(-1, there, 2),
            but(-2, 1, 8), but(-1, 1, 2, 3));
        refused("count", there, -2, (x, a) -> x.count(a[0]), but(1), but(-1, 2));
        refused("fault", there, NONE, (x, a) -> x.fault(a[0]), but(1), but(-1, 2));
    }

    private static void runs(int there) {
        int last = there - 1;
        int[] town = but(-1, there, 2);
        int[] hour = but(-1, HOURS, 24);
        int[] person = but(-1, PEOPLE, 8);
        refused("at", there, -1000, (x, a) -> x.at(a[0], a[1], a[2], a[3]), but(last, 4, 2, 4), town, hour, person,
            but(-1, 5));
        refused("hour", there, NONE, (x, a) -> x.hour(a[0], a[1], a[2]), but(last, 4, 4), town, hour, but(-1, 5));
        refused("run", there, -2, (x, a) -> x.run(a[0], a[1]), but(last, 7), town, but(-1, 8));
        refused("fate", there, -2, (x, a) -> x.fate(a[0], a[1], a[2]), but(last, 2, 4), town, person, but(-1, 5));
    }

    private static void trials(int there) {
        int last = there - 1;
        int[] town = but(-1, there, 2);
        int[] hour = but(-1, HOURS, 24);
        int[] person = but(-1, PEOPLE, 8);
        refused("gloves", there, NONE, (x, a) -> x.gloves(a[0]), but(last), town);
        refused("order", there, NONE, (x, a) -> x.order(a[0], a[1]), but(last, 3), town, but(-1, 4));
        refused("walk by 1", there, NONE, (x, a) -> x.walk(a[0], a[1], a[2], a[3], a[4]), but(last, 2, 4, 1, 10), town, person,
            hour, but(-1, 0, 2, 3, 4, 5), but(-1, 1, 9, 11, 12, 13, 14));
        refused("walk by 4", there, NONE, (x, a) -> x.walk(a[0], a[1], a[2], a[3], a[4]), but(last, 2, 1, 4, 13), town, person,
            but(-1, 2, 3, 4, 5), but(-1, 0, 5), but(-1, 1, 9, 14, 15));
        refused("walk", there, NONE, (x, a) -> x.walk(a[0], a[1], a[2], a[3], a[4]), but(last, 0, 0, 4, 0), town, person,
            but(-1, 2, 5), but(-1, 0, 5), but(-1, 1, 2, 3, 4, 5, 9, 14));
        refused("walk's way", there, NONE, (x, a) -> x.walk(a[0], a[1], a[2], a[3], a[4]), but(last, 0, 0, 4, 10), town, person,
            but(-1, 2, 5), but(-1, 0, 5, 6), but(-1, 1, 9, 14));
        refused("feeds", there, NONE, (x, a) -> x.feeds(a[0], a[1] != 0), but(last, 0), town);
        refused("feeds", there, NONE, (x, a) -> x.feeds(a[0], a[1] != 0), but(last, 1), town);
        refused("peace", there, NONE, (x, a) -> x.peace(a[0]), but(last), town);
        refused("loaf", there, -1000, (x, a) -> x.loaf(a[0], a[1], a[2], a[3], a[4]), but(last, 2, 4, 30, 12), town, person,
            hour, but(-1, 0, 31), but(-1, 1, 2, 9, 13, 17, 18));
        refused("loaf", there, -1000, (x, a) -> x.loaf(a[0], a[1], a[2], a[3], a[4]), but(last, 0, 0, 1, 0), town, person,
            hour, but(-1, 0, 31), but(-1, 1, 9, 13));
        refused("wedding", there, NONE, (x, a) -> x.wedding(a[0], a[1], a[2], a[3]), but(last, 4, CELLS - 1, 2), town, hour,
            but(-1, CELLS, 35), but(-1, 3));
        refused("wedding", there, NONE, (x, a) -> x.wedding(a[0], a[1], a[2], a[3]), but(last, 0, 0, 1), town, hour,
            but(-1, CELLS, 36), but(-1, 3));
        refused("stays", there, NONE, (x, a) -> x.stays(a[0], a[1], a[2]), but(last, 2, 12), town, person,
            but(-1, 1, 9, 13, 17, 18));
        refused("stays", there, NONE, (x, a) -> x.stays(a[0], a[1], a[2]), but(last, 0, 0), town, person, but(-1, 1, 9, 13));
    }

    private static void hands(int there) {
        int last = there - 1;
        int[] town = but(-1, there, 2);
        int[] hour = but(-1, HOURS, 24);
        int[] person = but(-1, PEOPLE, 8);
        refused("painted", there, -2, (x, a) -> x.painted(a[0], a[1], a[2], a[3]), but(last, 2, 4, 1), town, person, hour,
            but(-1, 2));
        refused("painted", there, -2, (x, a) -> x.painted(a[0], a[1], a[2], a[3]), but(last, 0, 0, 0), town, person, hour,
            but(-1, 2));
        refused("fever", there, -2, (x, a) -> x.fever(a[0], a[1], a[2], a[3]), but(last, 2, 4, NONE), town, person, hour,
            but(-2, 2, 3, 8));
        refused("fever of", there, -2, (x, a) -> x.fever(a[0], a[1], a[2], a[3]), but(last, 2, 0, 1), town, but(-1, 1, 3, 8),
            ANY, but(-2, 2, 3, 8));
        refused("drawn", there, NONE, (x, a) -> x.drawn(a[0], a[1], a[2], a[3]), but(last, 2, 7, 10), town, person, ANY,
            but(-1, 11));
        refused("drawn", there, NONE, (x, a) -> x.drawn(a[0], a[1], a[2], a[3]), but(last, 0, -7, 0), town, person, ANY,
            but(-1, 11));
        refused("news", there, NONE, (x, a) -> x.news(a[0], a[1], a[2]), but(last, 2, 1), town, but(-1, 1, 3, 8),
            but(-1, 2, 3, 8));
    }

    private static void maybe(int there) {
        int last = there - 1;
        int[] town = but(-1, there, 2);
        int[] hour = but(-1, HOURS, 24);
        int[] person = but(-1, PEOPLE, 8);
        refused("worlds", there, NONE, (x, a) -> x.worlds(a[0], a[1], a[2]), but(last, last, 3), town, town, but(-1, 4));
        refused("worlds", there, NONE, (x, a) -> x.worlds(a[0], a[1], a[2]), but(last, last, 0), town, town, but(-1, 4));
        for (int most = 0; most < 2; most++) {
            refused("pocket", there, NONE, (x, a) -> x.pocket(a[0], a[1], a[2], a[3], a[4] != 0),
                but(last, last, 2, 4, most), town, town, person, hour);
        }
        refused("search", there, NONE, (x, a) -> x.search(a[0], a[1], a[2]), but(last, last, 2), town, town, but(-1, 3));
        refused("search", there, NONE, (x, a) -> x.search(a[0], a[1], a[2]), but(last, last, 0), town, town, but(-1, 3));
    }

    private static void help(int there) {
        int last = there - 1;
        int[] town = but(-1, there, 2);
        int[] hour = but(-1, HOURS, 24);
        refused("aid", there, NONE, (x, a) -> x.aid(a[0], a[1]), but(last, 2), town, but(-1, PEOPLE, 8));
        refused("swap", there, NONE, (x, a) -> x.swap(a[0], a[1]), but(last, 2), town, but(-1, 3));
        for (int flag = 0; flag < 2; flag++) {
            refused("hunger", there, NONE, (x, a) -> x.hunger(a[0], a[1] != 0), but(last, flag), town);
            refused("wed", there, NONE, (x, a) -> x.wed(a[0], a[1] != 0), but(last, flag), town);
            refused("tunnel", there, flag == 0 ? NONE : -1000, (x, a) -> x.tunnel(a[0], a[1], a[2], a[3] != 0),
                but(last, 4, 30, flag), town, hour, but(-1, 0, 31));
            refused("tunnel", there, flag == 0 ? NONE : -1000, (x, a) -> x.tunnel(a[0], a[1], a[2], a[3] != 0),
                but(last, 0, 1, flag), town, hour, but(-1, 0, 31));
        }
        refused("richest", there, NONE, (x, a) -> x.richest(a[0], a[1]), but(last, 3), town, but(-2, 4));
        refused("even", there, NONE, (x, a) -> x.richest(a[0], a[1]), but(last, NONE), town, but(-2, 4));
        refused("miser", there, -2, (x, a) -> x.miser(a[0], a[1]), but(last, 3), town, but(-1, 4));
        refused("miser", there, -2, (x, a) -> x.miser(a[0], a[1]), but(last, 0), town, but(-1, 4));
    }

    // ---- promises 2 to 5, 35 to 37 ----

    private static void tapeAndTexts() {
        ShakenBread x = made(2);
        List<Integer> ahead = print(x);
        for (int n : new int[] {10, 20, -1, 600, Integer.MIN_VALUE, Integer.MAX_VALUE}) {
            c.due("end " + n, x.end(n), NONE);
        }
        c.due("end changed nothing", print(x).equals(ahead), true);
        c.due("the tape stays", x.text(0, 0), 0);
        c.due("the tape stays", x.town(0, 2), 2);
        for (int there = 0; there <= 2; there++) {
            for (int sort = 0; sort < 2; sort++) {
                int[] none = {-2, there, 2, 3, Integer.MIN_VALUE, Integer.MAX_VALUE};
                for (int at : none) {
                    textRefused(there, sort, at);
                }
                if (there == 2) {
                    textRefused(there, sort, NONE);
                }
            }
            for (int sort : new int[] {-1, 2, Integer.MIN_VALUE, Integer.MAX_VALUE}) {
                for (int at = -2; at <= 2; at++) {
                    textRefused(there, sort, at);
                }
            }
        }
    }

    /** The tape is taken, no text is read, and there is no fault; all else stays. */
    private static void textRefused(int there, int sort, int at) {
        for (String tape : new String[] {"", "law less;", "law no;"}) {
            ShakenBread x = made(there);
            Check.tape(x, tape.getBytes());
            c.due("text " + sort + " " + at, x.text(sort, at), -2);
            c.due("no fault", x.fault(0), 0);
            c.due("no place", x.fault(1), NONE);
            c.due("tape empty", x.end(1), NONE);
            c.due("tape empty", x.feed(0, 0, 0, 0, 0), 20);
            c.due("towns", x.count(0), there);
            c.due("books", x.count(1), there);
            for (int i = 0; i < there; i++) {
                c.due("law", x.town(i, 2), 1);
                c.due("notes", x.note(i, NONE, 0), 1);
            }
        }
    }

    /** A text with a fault leaves all texts; a good one all but its own. */
    private static void textsLeaveAllElse() {
        for (int sort = 0; sort < 2; sort++) {
            for (int at = -1; at < 2; at++) {
                ShakenBread x = made(2);
                int one = at == NONE ? NONE : Check.text(x, sort, at, sort == 0 ? "hours 25;" : "pocket 8 0 0;");
                List<Integer> ahead = print(x);
                c.due("a fault", one, NONE);
                if (at != NONE) {
                    c.due("the same fault again", Check.text(x, sort, at, sort == 0 ? "hours 25;" : "pocket 8 0 0;"), NONE);
                    c.due("no change", print(x).equals(ahead), true);
                    c.due("in its place", Check.text(x, sort, at, ""), at);
                    c.due("the other town stays", x.town(1 - at, 2), 1);
                    c.due("the other book stays", x.note(1 - at, NONE, 0), 1);
                    c.due("its own town", x.town(at, 2), sort == 0 ? 0 : 1);
                    c.due("its own book", x.note(at, NONE, 0), sort == 0 ? 1 : 0);
                    c.due("as many towns", x.count(0), 2);
                    c.due("as many books", x.count(1), 2);
                }
            }
        }
        for (int sort = 0; sort < 2; sort++) {
            ShakenBread x = new ShakenBread();
            c.due("a fault", Check.text(x, sort, NONE, "no;"), NONE);
            c.due("none there", x.count(sort), 0);
            c.due("not in its place", Check.text(x, sort, 0, ""), -2);
            c.due("the first", Check.text(x, sort, NONE, ""), 0);
            c.due("in its place", Check.text(x, sort, 0, ""), 0);
            c.due("not in the next one's", Check.text(x, sort, 1, ""), -2);
            c.due("the second", Check.text(x, sort, NONE, ""), 1);
            c.due("in its place", Check.text(x, sort, 1, ""), 1);
            c.due("no third", Check.text(x, sort, NONE, ""), -2);
            c.due("so many", x.count(sort), 2);
            c.due("none of the other sort", x.count(1 - sort), 0);
        }
    }

    private static void images() {
        ShakenBread x = made(2);
        List<Integer> ahead = print(x);
        for (int k : new int[] {-1, 3, Integer.MIN_VALUE, Integer.MAX_VALUE}) {
            c.due("image " + k, x.image(k), false);
            c.due("again " + k, x.again(k), false);
        }
        c.due("no image 0", x.again(0), false);
        c.due("no image 2", x.again(2), false);
        c.due("no change", print(x).equals(ahead), true);
        for (int k = 0; k < 3; k++) {
            ShakenBread y = new ShakenBread();
            c.due("none yet", y.again(k), false);
            c.due("an image of nothing", y.image(k), true);
            for (int other = 0; other < 3; other++) {
                c.due("image " + other, y.again(other), other == k);
            }
            Check.text(y, 0, NONE, TOWN);
            Check.text(y, 1, NONE, BOOK);
            Check.text(y, 1, NONE, BOOK);
            Check.text(y, 1, NONE, "no");
            y.feed(0, 0, 0, 0, 0);
            c.due("back", y.again(k), true);
            c.due("no towns", y.count(0), 0);
            c.due("no town", y.town(0, 0), NONE);
            c.due("no books", y.count(1), 0);
            c.due("no book", y.note(0, NONE, 0), -2);
            c.due("the first book", Check.text(y, 1, NONE, BOOK), 0);
            c.due("no fault", y.fault(0), 0);
            c.due("no place", y.fault(1), NONE);
            c.due("no tape", y.end(1), NONE);
        }
        threeImages();
    }

    private static void threeImages() {
        ShakenBread x = new ShakenBread();
        String[] laws = {"law first;", "law less;", "law last;"};
        for (int k = 0; k < 3; k++) {
            Check.text(x, 0, k == 0 ? NONE : 0, laws[k]);
            Check.tape(x, laws[k].getBytes());
            c.due("image " + k, x.image(k), true);
        }
        for (int k : new int[] {0, 2, 1, 1, 0}) {
            c.due("again " + k, x.again(k), true);
            c.due("its town", x.town(0, 2), k + 1);
            c.due("its tape", x.end(laws[k].length() + 1), NONE);
            c.due("its tape", x.end(laws[k].length()), laws[k].length());
            c.due("its tape's text", x.text(0, NONE), 1);
            c.due("its tape's text", x.town(1, 2), k + 1);
        }
        Check.text(x, 0, 0, "law more;");
        c.due("image 1 anew", x.image(1), true);
        c.due("image 0 as it was", x.again(0) && x.town(0, 2) == 1, true);
        c.due("image 2 as it was", x.again(2) && x.town(0, 2) == 3, true);
        c.due("image 1 as it is", x.again(1) && x.town(0, 2) == 0, true);
    }

    // ---- the last of the people, the last hour ----

    /** By so many people, each of them is there, and the next one isn't; so with hours. */
    private static void peopleThere() {
        for (int people = 0; people <= 8; people++) {
            ShakenBread x = Check.with("hours 1;" + "plain 0 1;".repeat(people));
            for (int p = 0; p <= 8; p++) {
                boolean there = p < people;
                c.due("person " + p, x.person(0, p, 2), there ? 1 : NONE);
                c.due("at " + p, x.at(0, 0, p, 0), there ? 0 : -1000);
                c.due("fate " + p, x.fate(0, p, 0), there ? NONE : -2);
                c.due("fever " + p, x.fever(0, p, 0, NONE), there ? (1 << people) - 1 : -2);
                c.due("aid " + p, x.aid(0, p), there ? 0 : NONE);
                c.due("loaf " + p, x.loaf(0, p, 0, 1, 0), there ? 0 : -1000);
            }
        }
        for (int hours = 1; hours <= 24; hours++) {
            ShakenBread x = Check.with("hours " + hours + ";plain 0 9;");
            c.due("last hour " + hours, x.hour(0, hours - 1, 3), 1);
            c.due("behind it " + hours, x.hour(0, hours, 3), NONE);
            c.due("last hour " + hours, x.at(0, hours - 1, 0, 2), 1);
            c.due("behind it " + hours, x.at(0, hours, 0, 2), -1000);
            for (int m = 1; m <= 4; m++) {
                int want = hours < m ? NONE : 9 - hours / 6;
                c.due("walk to the end", x.walk(0, 0, Math.max(0, hours - m), m, 0), want);
                c.due("walk beyond it", x.walk(0, 0, Math.max(0, hours - m + 1), m, 0), NONE);
            }
        }
    }
}
