import java.util.ArrayList;
import java.util.List;
import java.util.function.ToIntFunction;

/** What may be told, and the tape: each bound on both sides, the empty, the full, the faults and their places. */
public final class TextEdgesTest {
    private static final int NONE = -1;
    private static final int TOWN = 0;
    private static final int BOOK = 1;
    private static final Check c = new Check();

    public static void main(String[] args) {
        feedBounds();
        endBounds();
        highestFirst();
        fullTape();
        bytesBehindWords();
        bytesBehindNumbers();
        bytesAhead();
        longRows();
        nothingTold();
        townBounds();
        peopleBounds();
        errandBounds();
        quarrelBounds();
        bookBounds();
        thereOrNot();
        fullTown();
        fullBook();
        fullOverAndOver();
        wrongTokens();
        laterOnes();
        furtherOnes();
        firstFaultByPlace();
        onePlace();
        linesWithFaultsCount();
        c.close("TextEdgesTest");
    }

    private static void feedBlanks(ShakenBread x, int times) {
        int blanks = 0x20202020;
        for (int i = 0; i < times; i++) {
            x.feed(blanks, blanks, blanks, blanks, blanks);
        }
    }

    private static String repeat(String text, int times) {
        return text.repeat(times);
    }


    // ---- promises 2, 3: the tape ----

    private static void feedBounds() {
        for (int length = 578; length <= 600; length++) {
            ShakenBread x = new ShakenBread();
            feedBlanks(x, 30);
            c.due("end " + length, x.end(length), length);
            boolean fits = length <= 580;
            c.due("feed behind " + length, x.feed(-1, -1, -1, -1, -1), fits ? length + 20 : NONE);
            int now = fits ? length + 20 : length;
            c.due("not more behind " + length, x.end(now + 1), NONE);
            c.due("so many behind " + length, x.end(now), now);
            c.due("blanks and what came", x.text(TOWN, NONE), fits ? NONE : 0);
            c.due("what came is behind", x.fault(1), fits ? length : NONE);
        }
        ShakenBread x = new ShakenBread();
        for (int i = 1; i <= 30; i++) {
            c.due("feed " + i, x.feed(0, 0, 0, 0, 0), 20 * i);
        }
        c.due("feed 31", x.feed(0, 0, 0, 0, 0), NONE);
        c.due("feed 32", x.feed(0, 0, 0, 0, 0), NONE);
    }

    private static void endBounds() {
        ShakenBread x = new ShakenBread();
        c.due("end 0 of nothing", x.end(0), 0);
        c.due("end 1 of nothing", x.end(1), NONE);
        c.due("end -1 of nothing", x.end(-1), NONE);
        x.feed(0x6c617720, 0x6c657373, 0x3b000000, 0, 0);
        for (int n : new int[] {21, -1, 600, 601, Integer.MAX_VALUE, Integer.MIN_VALUE}) {
            c.due("end " + n + " of 20", x.end(n), NONE);
        }
        c.due("end 20 of 20", x.end(20), 20);
        c.due("end 9 of 20", x.end(9), 9);
        c.due("end 10 of 9", x.end(10), NONE);
        c.due("the first bytes", x.text(TOWN, NONE), 0);
        c.due("the first bytes", x.town(0, 2), 2);
        x.feed(0x6c617720, 0x6c657373, 0x3b202020, 0, 0);
        c.due("end 4", x.end(4), 4);
        c.due("feed behind them", x.feed(0x6c617374, 0x3b202020, 0x20202020, 0x20202020, 0x20202020), 24);
        c.due("both", x.text(TOWN, NONE), 1);
        c.due("both", x.town(1, 2), 3);
        x.feed(0, 0, 0, 0, 0);
        c.due("end 0", x.end(0), 0);
        c.due("nothing is a text", x.text(TOWN, 0), 0);
    }

    /** Each of the twenty bytes, by the place of the one that is no token. */
    private static void highestFirst() {
        for (int place = 0; place < 20; place++) {
            int[] n = {0x20202020, 0x0a0a0a0a, 0x20202020, 0x0a0a0a0a, 0x20202020};
            int shift = 24 - place % 4 * 8;
            n[place / 4] = n[place / 4] & ~(255 << shift) | 0xff << shift;
            ShakenBread x = new ShakenBread();
            x.feed(n[0], n[1], n[2], n[3], n[4]);
            c.due("byte " + place, x.text(TOWN, NONE), NONE);
            c.due("byte " + place, x.fault(1), place);
        }
        ShakenBread x = new ShakenBread();
        x.feed(0x6c617720, 0x6c617374, 0x3b736879, 0x20352037, 0x3b0a0a20);
        c.due("in their order", x.text(TOWN, NONE), 0);
        c.due("in their order", x.town(0, 2), 3);
        c.due("in their order", x.person(0, 0, 1), 5);
        c.due("in their order", x.person(0, 0, 2), 7);
    }

    private static void fullTape() {
        c.dueFault(TOWN, "law less" + repeat(" ", 591) + ";", 0, NONE);
        c.dueFault(TOWN, "law less;" + repeat(" ", 590) + "x", 1, 599);
        c.dueFault(TOWN, "law less" + repeat("\n", 592), 1, 600);
        c.dueFault(TOWN, "plain 9 0;" + repeat(" ", 590), 4, 600);
        c.dueFault(TOWN, repeat(" ", 590) + "plain 8 0;", 0, NONE);
        c.dueFault(TOWN, repeat(" ", 600), 0, NONE);
        c.dueFault(BOOK, repeat("\n", 600), 0, NONE);
        c.dueFault(BOOK, repeat("\n", 599) + ";", 1, 599);
        c.dueFault(TOWN, repeat("size2 2;", 75), 0, NONE);
        c.dueFault(TOWN, repeat("size2 2;", 74) + "size2 7;", 2, 598);
        c.dueFault(TOWN, repeat("eat1 1;", 85), 0, NONE);
        c.dueFault(TOWN, "errand 0" + repeat(" 0", 295) + ";", 3, 33);
        c.dueFault(TOWN, "errand 0" + repeat(" 0", 296), 1, 600);
        c.dueFault(TOWN, repeat("z", 600), 1, 0);
        c.dueFault(TOWN, repeat("0", 600), 1, 0);
        c.dueFault(TOWN, repeat(";", 600), 1, 0);
        c.dueFault(TOWN, "errand 0 " + repeat("0", 591), 1, 9);
    }

    // ---- promise 4, 5: tokens ----

    private static int afterWord(int b) {
        if (b == 10 || b == 32) {
            return NONE;
        }
        if (b >= 'a' && b <= 'z') {
            return 4;
        }
        return b == ';' ? 9 : 8;
    }

    /** Blanks are 10 and 32 alone; a letter makes another word; a digit, a second ; or another byte goes on with nothing. */
    private static void bytesBehindWords() {
        for (int b = 0; b < 256; b++) {
            int place = afterWord(b);
            c.dueFault(TOWN, "law less" + (char) b + ";", place == NONE ? 0 : 1, place);
        }
    }

    private static void bytesBehindNumbers() {
        for (int b = 0; b < 256; b++) {
            boolean good = b == 10 || b == 32 || b >= '0' && b <= '9';
            c.dueFault(TOWN, "hours 1" + (char) b + ";", good ? 0 : 1, good ? NONE : b == ';' ? 8 : 7);
        }
    }

    private static void bytesAhead() {
        for (int b = 0; b < 256; b++) {
            boolean good = b == 10 || b == 32;
            c.dueFault(TOWN, (char) b + "law less;", good ? 0 : 1, good ? NONE : 0);
            c.dueFault(BOOK, "pocket 0 0 0;" + (char) b, good ? 0 : 1, good ? NONE : 13);
        }
    }

    private static void longRows() {
        c.dueFault(TOWN, "hours 2;", 0, NONE);
        c.dueFault(TOWN, "hours 02;", 0, NONE);
        c.dueFault(TOWN, "hours 002;", 1, 6);
        c.dueFault(TOWN, "hours 0002;", 1, 6);
        c.dueFault(TOWN, "hours 100;", 1, 6);
        c.dueFault(TOWN, "hours 0 0;", 1, 8);
        c.dueFault(BOOK, "pocket 0 0 99;", 0, NONE);
        c.dueFault(BOOK, "pocket 0 0 100;", 1, 11);
        c.dueFault(BOOK, "pocket 0 0 099;", 1, 11);
        c.dueFault(TOWN, "errand 0 0 000;", 1, 11);
        c.dueFault(TOWN, "errand 000 0;", 1, 7);
        c.dueFault(TOWN, "lawmore;", 1, 0);
        c.dueFault(TOWN, "size33;", 1, 6);
        c.dueFault(TOWN, "size 3 3;;", 1, 9);
        c.dueFault(TOWN, "size3 3;law\nless;shy8 30;hours24;", 0, NONE);
        c.dueFault(TOWN, "hours12shy 0 0;", 1, 7);
        c.due("two digits", Check.with("hours 09;").town(0, 3), 9);
        c.due("two digits", Check.with("hours 10;").town(0, 3), 10);
        c.due("two digits", Check.with("hours 24;").town(0, 3), 24);
    }

    private static void nothingTold() {
        int[] first = {3, 3, 0, 12, 1, 6, 0, 0};
        for (String text : new String[] {"", " ", "\n", " \n \n"}) {
            ShakenBread x = Check.with(text, text);
            for (int what = 0; what < first.length; what++) {
                c.due("at first " + what, x.town(0, what), first[what]);
            }
            c.due("no notes", x.note(0, NONE, 0), 0);
            c.due("no note", x.note(0, 0, 0), -2);
            c.due("no quarrel", x.town(0, 10), NONE);
            c.due("no quarrel", x.town(0, 20), NONE);
            c.due("no one", x.person(0, 0, 0), NONE);
        }
        ShakenBread one = Check.with("polite 8 0;");
        c.due("no extra at first", one.person(0, 0, 3), 0);
        c.due("no errand at first", one.person(0, 0, 4), 0);
        c.due("no cell of an errand", one.person(0, 0, 10), NONE);
    }

    // ---- Terms 1: bounds ----

    /** A number between two parts of a text: the least, the greatest that it may be, and the ones beside them. */
    private static void bounds(int sort, String ahead, String behind, int low, int high, ToIntFunction<ShakenBread> told) {
        for (int value : new int[] {low - 1, low, high, high + 1, 99}) {
            if (value >= 0 && value <= 99) {
                boolean can = value >= low && value <= high;
                String text = ahead + value + behind;
                c.dueFault(sort, text, can ? 0 : 2, can ? NONE : ahead.length());
                ShakenBread x = new ShakenBread();
                Check.text(x, sort, NONE, text);
                if (can) {
                    c.due("told by " + text, told.applyAsInt(x), value);
                }
            }
        }
    }

    private static void townBounds() {
        bounds(TOWN, "size ", " 3;", 2, 6, x -> x.town(0, 0));
        bounds(TOWN, "size 3 ", ";", 2, 6, x -> x.town(0, 1));
        bounds(TOWN, "hours ", ";", 1, 24, x -> x.town(0, 3));
        bounds(TOWN, "eat ", " 1;", 0, 9, x -> x.town(0, 4));
        bounds(TOWN, "eat 1 ", ";", 1, 24, x -> x.town(0, 5));
        String[] laws = {"more", "first", "less", "last"};
        for (int law = 0; law < laws.length; law++) {
            c.due("law " + laws[law], Check.with("law " + laws[law] + ";").town(0, 2), law);
        }
    }

    private static void peopleBounds() {
        String[] manners = {"plain ", "polite ", "shy ", "gloved "};
        for (int i = 0; i < manners.length; i++) {
            int manner = i;
            bounds(TOWN, manners[i], " 3; size 6 6;", 0, 35, x -> x.person(0, 0, 1));
            bounds(TOWN, manners[i] + "3 ", ";", 0, 30, x -> x.person(0, 0, 2));
            c.due(manners[i], Check.with(manners[i] + "0 0;").person(0, 0, 0), manner);
        }
        String eight = repeat("shy 0 0;", 8);
        bounds(TOWN, eight + "extra ", " 3;", 0, 7, TextEdgesTest::whoHasExtra);
        bounds(TOWN, eight + "extra 7 ", ";", 0, 3, x -> x.person(0, 7, 3));
        c.dueFault(TOWN, eight, 0, NONE);
        for (String manner : manners) {
            c.dueFault(TOWN, eight + "\n" + manner + "0 0;", 3, 65);
            c.dueFault(TOWN, eight + manner + "0 0; plain 0 0;", 3, 64);
            c.dueFault(TOWN, manner + "0 0;" + repeat("shy 0 0;", 7), 0, NONE);
        }
    }

    private static int whoHasExtra(ShakenBread x) {
        int who = NONE;
        for (int p = 0; p < 8; p++) {
            who = x.person(0, p, 3) > 0 ? p : who;
        }
        return who;
    }

    private static void errandBounds() {
        String eight = repeat("shy 0 0;", 8);
        bounds(TOWN, eight + "errand ", " 4;", 0, 7, x -> {
            int who = NONE;
            for (int p = 0; p < 8; p++) {
                who = x.person(0, p, 4) > 0 ? p : who;
            }
            return who;
        });
        bounds(TOWN, "size 6 6; shy 0 0; errand 0 ", ";", 0, 35, x -> x.person(0, 0, 10));
        bounds(TOWN, "size 6 6; shy 0 0; errand 0 1 ", " 2;", 0, 35, x -> x.person(0, 0, 11));
        String eleven = "size 6 6; shy 0 0; errand 0 1 2 3 4 5 6 7 8 9 1 2 ";
        bounds(TOWN, eleven, ";", 0, 35, x -> x.person(0, 0, 21));
        c.due("twelve cells", Check.with(eleven + "3;").person(0, 0, 4), 12);
        c.dueFault(TOWN, eleven + "3 35;", 3, eleven.length() + 2);
        c.dueFault(TOWN, eleven + "3 35 36 0;", 3, eleven.length() + 2);
        c.dueFault(TOWN, eleven + "3; errand 0 1 2 3 4 5 6 7 8 9 1 2 3;", 0, NONE);
        c.dueFault(TOWN, eleven + "3; errand 0 1 2 3 4 5 6 7 8 9 1 2 3 4;", 3, eleven.length() + 36);
        c.dueFault(TOWN, "shy 0 0; errand 0;", 1, 17);
        c.dueFault(TOWN, "shy 0 0; errand;", 1, 15);
    }

    private static void quarrelBounds() {
        String eight = repeat("shy 0 0;", 8);
        bounds(TOWN, eight + "quarrel ", " 3;", 0, 7, x -> x.town(0, 10));
        bounds(TOWN, eight + "quarrel 3 ", ";", 0, 7, x -> x.town(0, 20));
        for (int p = 0; p < 8; p++) {
            c.dueFault(TOWN, eight + "quarrel " + p + " " + p + ";", 2, 74);
            c.dueFault(TOWN, eight + "quarrel " + p + " 0" + p + ";", 2, 74);
        }
        c.dueFault(TOWN, eight + "quarrel 8 8;", 2, 72);
        String six = repeat("quarrel 0 1;", 3) + repeat("quarrel 1 0;", 3);
        c.dueFault(TOWN, eight + six, 0, NONE);
        c.dueFault(TOWN, eight + six + "\nquarrel 2 3;", 3, 64 + 72 + 1);
        c.dueFault(TOWN, eight + six + "quarrel 2 3;quarrel 2 3;", 3, 64 + 72);
    }

    private static void bookBounds() {
        bounds(BOOK, "pocket ", " 3 4;", 0, 7, x -> x.note(0, 0, 0));
        bounds(BOOK, "pocket 3 ", " 4;", 0, 23, x -> x.note(0, 0, 1));
        bounds(BOOK, "pocket 3 4 ", ";", 0, 99, x -> x.note(0, 0, 2));
        String eight = repeat("pocket 7 23 99;", 8);
        c.dueFault(BOOK, eight, 0, NONE);
        c.dueFault(BOOK, eight + " pocket 0 0 0;", 3, 121);
        c.dueFault(BOOK, eight + "pocket 0 0 0;pocket 0 0 0;", 3, 120);
    }

    /** FAULT 4: a cell or one of the people that was told of and is not there. */
    private static void thereOrNot() {
        for (int columns = 2; columns <= 6; columns++) {
            for (int rows = 2; rows <= 6; rows++) {
                String size = "size " + columns + " " + rows + ";";
                int cells = columns * rows;
                dueThere(size + "shy " + (cells - 1) + " 0;", true);
                dueThere(size + "shy 0 0;errand 0 0 " + (cells - 1) + ";", true);
                if (cells < 36) {
                    dueThere(size + "shy " + cells + " 0;", false);
                    dueThere("shy " + cells + " 0; \n" + size + " ", false);
                    dueThere(size + "shy 0 0;errand 0 " + cells + " 0;\n", false);
                }
            }
        }
        for (int people = 1; people <= 8; people++) {
            String all = repeat("shy 0 0;", people);
            String[] lines = {"extra N 0;", "errand N 0;", "quarrel N 0;", "quarrel 0 N;"};
            for (int i = 0; i < lines.length; i++) {
                String last = lines[i].replace("N", "" + (people - 1));
                if (people > 1 || i < 2) {
                    dueThere(all + last, true);
                    dueThere(last + all, true);
                }
                if (people < 8) {
                    String missing = lines[i].replace("N", "" + people);
                    dueThere(all + missing, false);
                    dueThere(missing + all + " ", false);
                }
            }
        }
        dueThere("extra 0 0;", false);
        dueThere("errand 0 0;", false);
        dueThere("quarrel 0 1;", false);
    }

    private static void dueThere(String text, boolean there) {
        c.dueFault(TOWN, text, there ? 0 : 4, there ? NONE : text.length());
    }

    private static void fullTown() {
        StringBuilder s = new StringBuilder("size 6 6;hours 24;eat 9 24;law last;");
        s.append(repeat("gloved 35 30;", 8)).append(repeat("quarrel 7 6;", 6));
        for (int p = 0; p < 8; p++) {
            s.append("errand ").append(p).append(" 1 2 3 4 5 6 7 8 9 8 7 ").append(20 + p).append(';');
        }
        for (int p = 0; p < 8; p++) {
            s.append("extra ").append(p).append(" 3;");
        }
        c.due("on one tape", s.length() <= 600, true);
        ShakenBread x = Check.with(s.toString());
        int[] town = {6, 6, 3, 24, 9, 24, 8, 6};
        for (int what = 0; what < town.length; what++) {
            c.due("full town " + what, x.town(0, what), town[what]);
        }
        for (int q = 0; q < 6; q++) {
            c.due("full quarrel " + q, x.town(0, 10 + q) * 8 + x.town(0, 20 + q), 7 * 8 + 6);
        }
        for (int p = 0; p < 8; p++) {
            int[] one = {3, 35, 30, 3, 12};
            for (int what = 0; what < one.length; what++) {
                c.due("full one " + p + " " + what, x.person(0, p, what), one[what]);
            }
            c.due("first cell", x.person(0, p, 10), 1);
            c.due("last cell", x.person(0, p, 21), 20 + p);
            c.due("no 13th cell", x.person(0, p, 22), NONE);
        }
    }

    private static void fullBook() {
        StringBuilder s = new StringBuilder();
        for (int k = 0; k < 8; k++) {
            s.append("pocket ").append(k).append(' ').append(16 + k).append(' ').append(92 + k).append(';');
        }
        ShakenBread x = Check.with("", s.toString());
        c.due("full book", x.note(0, NONE, 0), 8);
        for (int k = 0; k < 8; k++) {
            c.due("who", x.note(0, k, 0), k);
            c.due("hour", x.note(0, k, 1), 16 + k);
            c.due("bread", x.note(0, k, 2), 92 + k);
        }
    }

    /** One too many is counted in one text alone, whatever the texts ahead have told. */
    private static void fullOverAndOver() {
        String[][] full = {{repeat("shy 0 0;", 8), "shy 0 0;"},
            {"shy 0 0;shy 0 0;" + repeat("quarrel 0 1;", 6), "quarrel 0 1;"},
            {"shy 0 0;errand 0 0 1 2 3 4 5 6 7 8 0 1 2;", "errand 0 0 1 2 3 4 5 6 7 8 0 1 2 3;"},
            {repeat("pocket 0 0 0;", 8), "pocket 0 0 0;"}};
        for (int i = 0; i < full.length; i++) {
            int sort = i < 3 ? TOWN : BOOK;
            ShakenBread x = new ShakenBread();
            c.due("the first", Check.text(x, sort, NONE, full[i][0]), 0);
            for (int again = 0; again < 3; again++) {
                c.due("full again: " + full[i][0], Check.text(x, sort, 0, full[i][0]), 0);
                c.due("no fault", x.fault(0), 0);
                c.due("one too many", Check.text(x, sort, 0, full[i][0] + full[i][1]), NONE);
                c.due("one too many", x.fault(0), 3);
                c.due("full with a wrong end", Check.text(x, sort, 0, full[i][0] + "x"), NONE);
                c.due("full with a wrong end", x.fault(0), 1);
            }
            c.due("as many as ahead", sort == TOWN ? x.town(0, 6) : x.note(0, NONE, 0), new int[] {8, 2, 1, 8}[i]);
        }
        ShakenBread x = Check.with("shy 0 0;");
        c.due("one who was told of ahead", Check.text(x, TOWN, 0, "shy 8 0;size 2 2;"), NONE);
        c.due("extra for one of a text ahead", Check.text(x, TOWN, 0, repeat("shy 0 0;", 8) + "extra 7 0;x"), NONE);
        c.due("none of them is told of now", Check.text(x, TOWN, 0, "shy 3 0;size 2 2;"), 0);
        c.due("no fault", x.fault(0), 0);
    }

    // ---- FAULT 1 ----

    private static final String[] LINES = {"size 3 3 ;", "law more ;", "hours 3 ;", "eat 3 3 ;", "plain 3 3 ;", "polite 3 3 ;",
        "shy 3 3 ;", "gloved 3 3 ;", "errand 0 3 3 ;", "extra 0 3 ;", "quarrel 0 3 ;"};

    /** Each token of each line, in whose place is any other one. */
    private static void wrongTokens() {
        for (String line : LINES) {
            wrongTokens(TOWN, line, "plain 0 0;");
        }
        wrongTokens(BOOK, "pocket 0 0 0 ;", "");
        for (String line : LINES) {
            c.dueFault(BOOK, line, 1, 0);
        }
        c.dueFault(TOWN, "pocket 0 0 0;", 1, 0);
        for (String word : new String[] {"more", "first", "less", "last", "a", "z", "plai", "plains", "sizes", "siz", "tell"}) {
            c.dueFault(TOWN, word + " 3 3;", 1, 0);
            c.dueFault(BOOK, word + " 3 3;", 1, 0);
        }
        for (String word : new String[] {"pocke", "pockets", "Pocket"}) {
            c.dueFault(BOOK, word + " 3 3 3;", 1, 0);
        }
        for (String law : new String[] {"mor", "mores", "firs", "lest", "lasts", "law", "plain", "size"}) {
            c.dueFault(TOWN, "law " + law + ";", 1, 4);
        }
        c.dueFault(TOWN, "size 3 3 3;", 1, 9);
        c.dueFault(TOWN, "law more less;", 1, 9);
        c.dueFault(TOWN, "hours 3 3;", 1, 8);
        c.dueFault(TOWN, "shy 0 0 0;", 1, 8);
        c.dueFault(BOOK, "pocket 0 0 0 0;", 1, 13);
    }

    private static void wrongTokens(int sort, String line, String ahead) {
        String[] tokens = line.split(" ");
        String text = ahead;
        for (int i = 0; i < tokens.length; i++) {
            List<String> wrong = new ArrayList<>(List.of("x", "#", "100", "\u00ff", "A"));
            boolean number = Character.isDigit(tokens[i].charAt(0));
            boolean more = line.startsWith("errand") && i == 4;
            if (!number && !more) {
                wrong.add("3");
            }
            if (!tokens[i].equals(";") && !(line.startsWith("errand") && i == 3)) {
                wrong.add(";");
            }
            if (i > 0) {
                wrong.add("");
                wrong.add("plain");
            }
            for (String bad : wrong) {
                c.dueFault(sort, text + bad, 1, text.length());
                c.dueFault(sort, text + bad + "   ", 1, text.length() + (bad.isEmpty() ? 3 : 0));
            }
            text = text + tokens[i] + " ";
        }
    }

    // ---- which one strikes, which fault is told ----

    private static void laterOnes() {
        ShakenBread x = Check.with("size 6 6;size 2 3;law last;law less;hours 24;hours 5;eat 9 24;eat 0 1;"
            + "shy 0 0;errand 0 1 2 3 4 5;errand 0 4 3;extra 0 3;extra 0 1;");
        int[] town = {2, 3, 2, 5, 0, 1, 1, 0};
        for (int what = 0; what < town.length; what++) {
            c.due("later " + what, x.town(0, what), town[what]);
        }
        c.due("later errand", x.person(0, 0, 4), 2);
        c.due("later errand", x.person(0, 0, 10), 4);
        c.due("later errand", x.person(0, 0, 11), 3);
        c.due("nothing left of the one ahead", x.person(0, 0, 12), NONE);
        c.due("later extra", x.person(0, 0, 3), 1);
        Check.text(x, TOWN, 0, "shy 0 0;");
        c.due("nothing left of another text", x.person(0, 0, 3), 0);
        c.due("nothing left of another text", x.person(0, 0, 4), 0);
        c.due("nothing left of another text", x.town(0, 0), 3);
        Check.text(x, TOWN, 0, "errand 0 9;");
        Check.text(x, TOWN, 0, "extra 0 3;extra 0 4;");
        Check.text(x, TOWN, 0, "shy 0 0;shy 0 0;quarrel 0 1;");
        c.due("nothing left of a text with a fault", x.person(0, 0, 3), 0);
        c.due("nothing left of a text with a fault", x.person(0, 0, 4), 0);
        c.due("quarrels", x.town(0, 7), 1);
        Check.text(x, TOWN, 0, "");
        c.due("no people left", x.town(0, 6), 0);
        c.due("no quarrels left", x.town(0, 7), 0);
        Check.text(x, BOOK, NONE, "pocket 0 0 0;");
        Check.text(x, BOOK, 0, "");
        c.due("no notes left", x.note(0, NONE, 0), 0);
        eachOfTheLater();
    }

    /** Of each of eight: his extra and his errand, whichever is told first, and nothing of them behind another text. */
    private static void eachOfTheLater() {
        String eight = repeat("shy 0 0;", 8);
        for (int p = 0; p < 8; p++) {
            ShakenBread x = Check.with(eight + "extra " + p + " 2;errand " + p + " 1 2;");
            ShakenBread y = Check.with("errand " + p + " 1 2;extra " + p + " 2;" + eight);
            for (int q = 0; q < 8; q++) {
                c.due("extra of " + q, x.person(0, q, 3), q == p ? 2 : 0);
                c.due("steps of " + q, x.person(0, q, 4), q == p ? 2 : 0);
                c.due("extra of " + q, y.person(0, q, 3), q == p ? 2 : 0);
                c.due("steps of " + q, y.person(0, q, 4), q == p ? 2 : 0);
            }
            Check.text(x, TOWN, 0, eight);
            Check.text(y, TOWN, NONE, eight);
            for (int q = 0; q < 8; q++) {
                c.due("no extra left of " + q, x.person(0, q, 3) + y.person(1, q, 3), 0);
                c.due("no steps left of " + q, x.person(0, q, 4) + y.person(1, q, 4), 0);
            }
        }
    }

    private static void furtherOnes() {
        ShakenBread x = Check.with("shy 0 0;shy 0 0;quarrel 0 1;quarrel 0 1;", "pocket 0 0 0;pocket 0 0 0;");
        c.due("people", x.town(0, 6), 2);
        c.due("quarrels", x.town(0, 7), 2);
        c.due("notes", x.note(0, NONE, 0), 2);
    }

    private static void firstFaultByPlace() {
        c.dueFault(TOWN, "size 1 1; hours 25; x", 1, 20);
        c.dueFault(TOWN, "size 1 1; hours 25; plain 9 0", 1, 29);
        c.dueFault(TOWN, "shy 0 31; size 7 2;", 2, 6);
        c.dueFault(TOWN, "size 7 1;", 2, 5);
        c.dueFault(TOWN, repeat("shy 0 0;", 9) + "size 7 7;", 3, 64);
        c.dueFault(TOWN, "size 7 7;" + repeat("shy 0 0;", 9), 2, 5);
        c.dueFault(TOWN, repeat("shy 0 0;", 9) + "x", 1, 72);
        c.dueFault(TOWN, "shy 9 0; hours 0;", 2, 15);
        c.dueFault(TOWN, "shy 9 0;" + repeat("shy 0 0;", 8), 3, 64);
        c.dueFault(TOWN, "shy 9 0;", 4, 8);
        String quarrels = repeat("shy 0 0;", 2) + repeat("quarrel 0 1;", 6);
        c.dueFault(TOWN, quarrels + "quarrel 0 1;" + repeat("shy 0 0;", 7), 3, quarrels.length());
        c.dueFault(TOWN, quarrels + repeat("shy 0 0;", 7) + "quarrel 0 1;", 3, quarrels.length() + 48);
        c.dueFault(BOOK, "pocket 8 0 0;" + repeat("pocket 0 0 0;", 8), 2, 7);
        c.dueFault(BOOK, repeat("pocket 0 0 0;", 8) + "pocket 8 0 0; pocket", 1, 124);
    }

    /** The 13th cell of an errand that can't be: of one place the least. */
    private static void onePlace() {
        String twelve = "shy 0 0;errand 0 0 0 0 0 0 0 0 0 0 0 0 0 ";
        c.dueFault(TOWN, twelve + "35;", 3, twelve.length());
        c.dueFault(TOWN, twelve + "36;", 2, twelve.length());
        c.dueFault(TOWN, twelve + "0 36;", 3, twelve.length());
    }

    /** A line with a number that can't be tells its one all the same: the 9th, the 7th, is one too many, at its first token. */
    private static void linesWithFaultsCount() {
        c.dueFault(TOWN, repeat("shy 0 0;", 8) + "shy 36 31;", 3, 64);
        c.dueFault(TOWN, repeat("shy 0 0;", 7) + "shy 36 31;shy 0 0;", 2, 60);
        c.dueFault(TOWN, repeat("shy 0 0;", 2) + repeat("quarrel 0 1;", 6) + "quarrel 9 9;", 3, 88);
        c.dueFault(TOWN, repeat("shy 0 0;", 2) + repeat("quarrel 0 1;", 6) + "quarrel 1 1;", 3, 88);
        c.dueFault(BOOK, repeat("pocket 0 0 0;", 8) + "pocket 8 24 0;", 3, 104);
        c.dueFault(BOOK, repeat("pocket 0 0 0;", 7) + "pocket 8 24 0;pocket 0 0 0;", 2, 98);
    }
}
