/** Each promise by cases worked out by hand: ordinary ones, edges, wrong inputs. */
public final class PromiseTest {
    private static final int NONE = -1;
    private static final Check c = new Check();

    private static void due(String call, long got, long want) {
        c.due(call, got, want);
    }

    private static void due(String call, boolean got, boolean want) {
        c.due(call, got, want);
    }

    public static void main(String[] args) {
        asInReadme();
        newObject();
        tape();
        texts();
        faults();
        syntaxFaults();
        numberFaults();
        told();
        laws();
        manners();
        runs();
        deaths();
        gloves();
        order();
        walk();
        feeds();
        peace();
        loaf();
        wedding();
        stays();
        painted();
        fever();
        drawn();
        worlds();
        search();
        news();
        aid();
        hunger();
        swap();
        wed();
        tunnel();
        richest();
        miser();
        images();
        noTown();
        noPeople();
        c.close("PromiseTest");
    }

    private static void dueFault(int sort, String text, int kind, int place) {
        c.dueFault(sort, text, kind, place);
    }

    /** The session that README.md shows. */
    private static void asInReadme() {
        ShakenBread bread = new ShakenBread();
        Check.tape(bread, ("size 2 2; law first; hours 3; eat 2 3; plain 0 2; polite 0 3; shy 1 1; errand 1 0 1 3;"
            + " extra 2 2;").getBytes());
        int town = bread.text(0, ShakenBread.NONE);
        due("town", town, 0);
        due("bread behind hour 0", bread.at(town, 0, 0, 1), 3);
        due("starved", bread.run(town, 0), 1);
        due("fate", bread.fate(town, 1, 0), 2);
        due("ordered to", bread.order(town, 2), 2);
        due("who is ordered", bread.order(town, 1), 0);
        due("starved by the order", bread.order(town, 3), 0);
        Check.tape(bread, "pocket 2 0 2;".getBytes());
        int book = bread.text(1, ShakenBread.NONE);
        due("book", book, 0);
        due("worlds", bread.worlds(town, book, 0), 1);
        due("runs", bread.worlds(town, book, 1), 3);
        due("pocket", bread.pocket(town, book, 2, 2, true), 1);
        due("image", bread.image(0), true);
        due("again", bread.again(0), true);
    }

    // promise 1, 35
    private static void newObject() {
        ShakenBread x = new ShakenBread();
        due("new count 0", x.count(0), 0);
        due("new count 1", x.count(1), 0);
        due("count 2", x.count(2), -2);
        due("count -1", x.count(-1), -2);
        due("new again", x.again(0) || x.again(1) || x.again(2), false);
        due("new fault", x.fault(0), 0);
        due("new place", x.fault(1), NONE);
        due("new end 1", x.end(1), NONE);
        due("new end 0", x.end(0), 0);
        due("new town", x.town(0, 0), NONE);
        due("new note", x.note(0, NONE, 0), -2);
        due("NONE", ShakenBread.NONE, -1);
    }

    // promises 2, 3
    private static void tape() {
        ShakenBread x = new ShakenBread();
        due("feed", x.feed(0x73697a65, 0x20322035, 0x3b0a0a0a, 0x20202020, 0x20200a20), 20);
        due("text of it", x.text(0, NONE), 0);
        due("W", x.town(0, 0), 2);
        due("H", x.town(0, 1), 5);
        int blanks = 0x20202020;
        for (int i = 1; i <= 30; i++) {
            due("feed " + i, x.feed(blanks, blanks, blanks, blanks, blanks), 20 * i);
        }
        due("feed over 600", x.feed(-1, -1, -1, -1, -1), NONE);
        due("end 601", x.end(601), NONE);
        due("nothing came", x.end(600), 600);
        due("all blank", x.text(0, NONE), 1);
        for (int i = 1; i <= 30; i++) {
            x.feed(blanks, blanks, blanks, blanks, blanks);
        }
        due("end 581", x.end(581), 581);
        due("feed to 601", x.feed(-1, -1, -1, -1, -1), NONE);
        due("end -1", x.end(-1), NONE);
        due("end 582", x.end(582), NONE);
        due("end 580", x.end(580), 580);
        due("feed to 600", x.feed(-1, -1, -1, -1, -1), 600);
        due("end 0", x.end(0), 0);
        due("feed after it", x.feed(0, 0, 0, 0, 0), 20);
    }

    // promises 4, 35
    private static void texts() {
        ShakenBread x = new ShakenBread();
        due("text in no place", Check.text(x, 0, 0, "law last;"), -2);
        due("tape is empty then", x.end(1), NONE);
        due("first town", Check.text(x, 0, NONE, "law last;"), 0);
        due("tape is taken", x.end(1), NONE);
        due("second town", Check.text(x, 0, NONE, "law less;"), 1);
        due("third town", Check.text(x, 0, NONE, "law first;"), -2);
        due("tape is empty then", x.end(1), NONE);
        due("in the place of one", Check.text(x, 0, 1, "law first;"), 1);
        due("law of 0", x.town(0, 2), 3);
        due("law of 1", x.town(1, 2), 1);
        due("with a fault", Check.text(x, 0, 1, "law 3;"), NONE);
        due("tape is empty then", x.end(1), NONE);
        due("the old one stays", x.town(1, 2), 1);
        due("fault", x.fault(0), 1);
        due("no such sort", Check.text(x, 2, NONE, "!"), -2);
        due("no fault then", x.fault(0), 0);
        due("no place then", x.fault(1), NONE);
        due("sort -1", Check.text(x, -1, NONE, ""), -2);
        due("place 2", Check.text(x, 0, 2, ""), -2);
        due("place -2", Check.text(x, 0, -2, ""), -2);
        due("towns", x.count(0), 2);
        due("books", x.count(1), 0);
        due("a book", Check.text(x, 1, NONE, ""), 0);
        due("another", Check.text(x, 1, NONE, "pocket 1 2 3;"), 1);
        due("a third", Check.text(x, 1, NONE, ""), -2);
        due("in the place of one", Check.text(x, 1, 0, "pocket 7 23 99;"), 0);
        due("books", x.count(1), 2);
        due("note of 0", x.note(0, 0, 2), 99);
        due("note of 1", x.note(1, 0, 2), 3);
        due("an empty town in place", Check.text(x, 0, 0, ""), 0);
        due("its law", x.town(0, 2), 0);
    }

    // promise 5
    private static void faults() {
        ShakenBread x = new ShakenBread();
        due("text", Check.text(x, 0, NONE, "size 7 7;"), NONE);
        due("fault", x.fault(0), 2);
        due("place", x.fault(1), 5);
        due("fault 2", x.fault(2), NONE);
        due("fault -1", x.fault(-1), NONE);
        due("a good text", Check.text(x, 0, NONE, "size 6 6;"), 0);
        due("no fault", x.fault(0), 0);
        due("no place", x.fault(1), NONE);
    }

    private static void syntaxFaults() {
        dueFault(0, "size 3 3", 1, 8);
        dueFault(0, "size 3 3  \n", 1, 11);
        dueFault(0, "size 3;", 1, 6);
        dueFault(0, "size 3 3 3;", 1, 9);
        dueFault(0, "size;", 1, 4);
        dueFault(0, ";", 1, 0);
        dueFault(0, "3;", 1, 0);
        dueFault(0, "  Size 3 3;", 1, 2);
        dueFault(0, "sizes 3 3;", 1, 0);
        dueFault(0, "siz 3 3;", 1, 0);
        dueFault(0, "size! 3 3;", 1, 4);
        dueFault(0, "size\t3 3;", 1, 4);
        dueFault(0, "size 3 3;\u00e9", 1, 9);
        dueFault(0, "size 3 300;", 1, 7);
        dueFault(0, "size 99 3 more;", 1, 10);
        dueFault(0, "hours 99; law more more;", 1, 19);
        dueFault(0, "law more", 1, 8);
        dueFault(0, "law lost;", 1, 4);
        dueFault(0, "law;", 1, 3);
        dueFault(0, "more;", 1, 0);
        dueFault(0, "errand 0;", 1, 8);
        dueFault(0, "errand 0 1 law;", 1, 11);
        dueFault(0, "pocket 0 0 0;", 1, 0);
        dueFault(1, "size 3 3;", 1, 0);
        dueFault(1, "pocket 0 0;", 1, 10);
        dueFault(1, "pocket 0 0 0 0;", 1, 13);
        dueFault(1, "pocket 8 24 99;\npocket", 1, 22);
        dueFault(1, "", 0, NONE);
        dueFault(0, "", 0, NONE);
        dueFault(0, " \n ", 0, NONE);
        dueFault(0, "size03 3;law\nless;hours4;", 0, NONE);
        dueFault(0, "size 3x 3;", 1, 6);
        dueFault(0, "size 0003;", 1, 5);
    }

    private static void numberFaults() {
        dueFault(0, "size 1 1;", 2, 5);
        dueFault(0, "size 2 7;", 2, 7);
        dueFault(0, "size 2 6;", 0, NONE);
        dueFault(0, "hours 0;", 2, 6);
        dueFault(0, "hours 25;", 2, 6);
        dueFault(0, "hours 24; hours 01;", 0, NONE);
        dueFault(0, "eat 10 1;", 2, 4);
        dueFault(0, "eat 9 0;", 2, 6);
        dueFault(0, "eat 0 25;", 2, 6);
        dueFault(0, "eat 9 24;", 0, NONE);
        dueFault(0, "shy 36 31;", 2, 4);
        dueFault(0, "shy 35 31;", 2, 7);
        dueFault(0, "gloved 8 30;", 0, NONE);
        dueFault(0, "gloved 9 30;", 4, 12);
        dueFault(0, "gloved 35 30;size 6 6;", 0, NONE);
        dueFault(0, "errand 8 0;", 2, 7);
        dueFault(0, "errand 0 36;", 2, 9);
        dueFault(0, "extra 8 0;", 2, 6);
        dueFault(0, "extra 0 4;", 2, 8);
        dueFault(0, "quarrel 8 8;", 2, 8);
        dueFault(0, "quarrel 1 8;", 2, 10);
        dueFault(0, "quarrel 1 1;", 2, 10);
        dueFault(0, "quarrel 1 0;", 4, 12);
        dueFault(0, "plain 0 0;quarrel 1 0;plain 0 0;", 0, NONE);
        dueFault(0, "plain 0 0; errand 0 9;", 4, 22);
        dueFault(0, "plain 0 0; errand 0 9; errand 0 1; \n", 4, 36);
        dueFault(0, "errand 0 8 8; plain 0 0;", 0, NONE);
        dueFault(0, "extra 1 0; plain 0 0;", 4, 21);
        dueFault(0, "size 6 6; plain 9 0; size 3 3;", 4, 30);
        dueFault(1, "pocket 8 24 0;", 2, 7);
        dueFault(1, "pocket 7 24 0;", 2, 9);
        dueFault(1, "pocket 7 23 99;", 0, NONE);
        String eight = "shy 0 0;shy 0 0;shy 0 0;shy 0 0;shy 0 0;shy 0 0;shy 0 0;shy 0 0;";
        dueFault(0, eight, 0, NONE);
        dueFault(0, eight + " plain 0 0; plain 99 0;", 3, 65);
        dueFault(0, eight.replace("shy 0 0;shy 0 0;shy", "shy 0 0;shy 0 31;shy") + "shy 0 0;", 2, 14);
        dueFault(0, eight.substring(0, 56) + "shy 0 31; shy 0 0;", 2, 62);
        dueFault(0, eight + "shy 36 0;", 3, 64);
        String six = "quarrel 0 1;quarrel 0 1;quarrel 0 1;quarrel 0 1;quarrel 0 1;quarrel 0 1;";
        dueFault(0, "shy 0 0;shy 0 0;" + six, 0, NONE);
        dueFault(0, "shy 0 0;shy 0 0;" + six + "quarrel 0 1;", 3, 88);
        dueFault(0, six + "quarrel 0 0;", 3, 72);
        dueFault(0, six.replaceFirst("0 1", "0 0") + "quarrel 0 0;", 2, 10);
        String notes = "pocket 0 0 0;pocket 0 0 0;pocket 0 0 0;pocket 0 0 0;";
        dueFault(1, notes + notes, 0, NONE);
        dueFault(1, notes + notes + "pocket 8 0 0;", 3, 104);
        dueFault(1, notes + "pocket 0 24 0;" + notes, 2, 61);
        dueFault(0, "shy 0 0; errand 0 1 2 3 4 5 6 7 8 0 1 2 3;", 0, NONE);
        dueFault(0, "shy 0 0; errand 0 1 2 3 4 5 6 7 8 0 1 2 3 4 5;", 3, 42);
        dueFault(0, "shy 0 0; errand 0 1 2 3 4 5 6 7 8 0 1 2 3 36 5;", 2, 42);
        dueFault(0, "shy 0 0; errand 0 1 2 3 4 5 6 7 8 0 1 2 3 4 5; x", 1, 47);
    }

    // promises 6, 7, 8
    private static void told() {
        ShakenBread x = Check.with("size 4 5; law less; hours 7; eat 3 2; plain 1 2; polite 3 4; shy 5 6; gloved 7 8;"
            + "errand 1 9 10 11; errand 1 4 5; extra 2 1; extra 2 3; quarrel 0 1; quarrel 3 2; hours 9;",
            "pocket 1 2 3; pocket 4 5 60;");
        int[] town = {4, 5, 2, 9, 3, 2, 4, 2, NONE, NONE, 0, 3, NONE};
        for (int what = 0; what < town.length; what++) {
            due("town " + what, x.town(0, what), town[what]);
        }
        due("town -1", x.town(0, -1), NONE);
        due("town 20", x.town(0, 20), 1);
        due("town 21", x.town(0, 21), 2);
        due("town 22", x.town(0, 22), NONE);
        for (int p = 0; p < 4; p++) {
            due("manner " + p, x.person(0, p, 0), p);
            due("cell " + p, x.person(0, p, 1), 2 * p + 1);
            due("bread " + p, x.person(0, p, 2), 2 * p + 2);
            due("extra " + p, x.person(0, p, 3), p == 2 ? 3 : 0);
            due("steps " + p, x.person(0, p, 4), p == 1 ? 2 : 0);
        }
        due("step 0", x.person(0, 1, 10), 4);
        due("step 1", x.person(0, 1, 11), 5);
        due("step 2", x.person(0, 1, 12), NONE);
        due("person what 5", x.person(0, 1, 5), NONE);
        due("person what -1", x.person(0, 1, -1), NONE);
        due("person 4", x.person(0, 4, 0), NONE);
        due("person -1", x.person(0, -1, 0), NONE);
        due("notes", x.note(0, NONE, 0), 2);
        due("notes what 1", x.note(0, NONE, 1), -2);
        for (int what = 0; what < 3; what++) {
            due("note 0 " + what, x.note(0, 0, what), what + 1);
        }
        due("note 1 2", x.note(0, 1, 2), 60);
        due("note 2", x.note(0, 2, 0), -2);
        due("note -2", x.note(0, -2, 0), -2);
        due("note what 3", x.note(0, 0, 3), -2);
        due("note of no book", x.note(1, NONE, 0), -2);
        ShakenBread plain = Check.with("");
        int[] first = {3, 3, 0, 12, 1, 6, 0, 0};
        for (int what = 0; what < first.length; what++) {
            due("town at first " + what, plain.town(0, what), first[what]);
        }
    }

    /** Two in one cell for an hour by a law: what they have behind it. */
    private static void dueBread(String law, String people, int of0, int of1) {
        ShakenBread x = Check.with("hours 1; law " + law + ";" + people);
        due(law + " " + people + " 0", x.at(0, 0, 0, 1), of0);
        due(law + " " + people + " 1", x.at(0, 0, 1, 1), of1);
    }

    private static void laws() {
        dueBread("more", "plain 0 2; polite 0 1;", 1, 2);
        dueBread("less", "plain 0 2; polite 0 1;", 3, 0);
        dueBread("first", "plain 0 2; polite 0 1;", 3, 0);
        dueBread("last", "plain 0 2; polite 0 1;", 1, 2);
        dueBread("more", "plain 0 2; plain 0 2;", 2, 2);
        dueBread("less", "plain 0 2; plain 0 2;", 2, 2);
        dueBread("first", "plain 0 2; plain 0 2;", 1, 3);
        dueBread("last", "plain 0 2; plain 0 2;", 3, 1);
        dueBread("more", "plain 0 1; plain 0 2;", 2, 1);
        dueBread("less", "plain 0 0; plain 0 2;", 0, 2);
        dueBread("first", "plain 0 0; plain 0 2;", 0, 2);
        dueBread("last", "plain 0 2; plain 0 0;", 2, 0);
    }

    private static void manners() {
        dueBread("first", "gloved 0 2; plain 0 2;", 2, 2);
        dueBread("last", "gloved 0 2; plain 0 2;", 3, 1);
        dueBread("first", "plain 0 2; gloved 0 2;", 1, 3);
        dueBread("first", "shy 0 2; gloved 0 2;", 2, 2);
        dueBread("last", "shy 0 2; gloved 0 2;", 1, 3);
        dueBread("first", "shy 0 2; plain 0 2;", 3, 1);
        dueBread("first", "shy 0 2; shy 0 2;", 2, 2);
        dueBread("first", "polite 0 2; polite 0 2;", 1, 3);
        dueBread("first", "plain 0 2; polite 0 2;", 3, 1);
        dueBread("more", "gloved 0 5; plain 0 2;", 5, 2);
        dueBread("first", "plain 0 2; plain 0 2; quarrel 1 0;", 2, 2);
        dueBread("first", "plain 0 2; plain 1 2;", 2, 2);
        ShakenBread x = Check.with("hours 1; gloved 0 2; plain 0 0; shy 0 0; shy 0 0; quarrel 2 0;");
        due("shakes with gloves too", x.at(0, 0, 0, 3), 0b1010);
        due("not with a shy one", x.at(0, 0, 2, 3), 0b0010);
        due("shakes", x.hour(0, 0, 0), 4);
        due("ounces", x.hour(0, 0, 1), 0);
    }

    private static final String THREE =
        "size 2 2; hours 3; eat 1 2; plain 0 4; shy 0 0; polite 1 2; errand 2 1 0;";

    // promises 9, 10, 11, 12
    private static void runs() {
        ShakenBread x = Check.with(THREE);
        int[][] bread = {{3, 1, 2}, {1, 1, 1}, {1, 1, 1}};
        int[][] met = {{2, 1, 0}, {6, 5, 3}, {6, 5, 3}};
        int[][] came = {{-1, 1, 0}, {-1, 1, 0}, {0, 0, 0}};
        int[][] hours = {{1, 1, 0, 7, 6}, {3, 1, 3, 7, 3}, {3, 0, 0, 7, 3}};
        for (int h = 0; h < 3; h++) {
            for (int p = 0; p < 3; p++) {
                due("cell", x.at(0, h, p, 0), p == 2 && h == 0 ? 1 : 0);
                due("bread", x.at(0, h, p, 1), bread[h][p]);
                due("lives", x.at(0, h, p, 2), 1);
                due("met", x.at(0, h, p, 3), met[h][p]);
                due("came", x.at(0, h, p, 4), came[h][p]);
            }
            for (int what = 0; what < 5; what++) {
                due("hour " + h + " " + what, x.hour(0, h, what), hours[h][what]);
            }
        }
        int[] run = {0, NONE, 7, 3, 3, 0, 3, 1, -2};
        for (int what = 0; what < run.length; what++) {
            due("run " + what, x.run(0, what), run[what]);
        }
        int[][] fates = {{NONE, 5, 1, 3, 0, -2}, {NONE, 5, 1, 1, 0, -2}, {NONE, 4, 1, 2, 0, -2}};
        for (int p = 0; p < 3; p++) {
            for (int what = 0; what < 6; what++) {
                due("fate " + p + " " + what, x.fate(0, p, what), fates[p][what]);
            }
        }
        due("at no hour", x.at(0, 3, 0, 0), -1000);
        due("at hour -1", x.at(0, -1, 0, 0), -1000);
        due("at nobody", x.at(0, 0, 3, 0), -1000);
        due("at what 5", x.at(0, 0, 0, 5), -1000);
        due("at what -1", x.at(0, 0, 0, -1), -1000);
        due("hour 3", x.hour(0, 3, 0), NONE);
        due("hour what 5", x.hour(0, 0, 5), NONE);
        due("run -1", x.run(0, -1), -2);
        due("fate of 3", x.fate(0, 3, 0), -2);
        due("fate -1", x.fate(0, 0, -1), -2);
    }

    private static void deaths() {
        // 1 starves with his one ounce in hour 0, keeps it, goes on by his errand, and shakes no more
        ShakenBread x = Check.with("size 2 2; hours 3; eat 2 1; law first; polite 0 6; plain 1 1; errand 1 1 0 2;");
        due("starves", x.run(0, 0), 1);
        due("first", x.run(0, 1), 0);
        due("fate", x.fate(0, 1, 0), 0);
        due("keeps", x.at(0, 2, 1, 1), 1);
        due("lives no more", x.at(0, 1, 1, 2), 0);
        due("his cell", x.at(0, 2, 1, 0), 2);
        due("no shakes", x.run(0, 2), 0);
        due("eaten", x.run(0, 3), 6);
        due("eaten by 0", x.fate(0, 0, 2), 6);
        due("eaten by 1", x.fate(0, 1, 2), 0);
        due("eaten in hour 0", x.hour(0, 0, 2), 2);
        due("all bread", x.run(0, 4), 1);
        due("the dead have bread, too", x.run(0, 5), 1);
        due("couples", x.run(0, 6), 0);
        due("parts", x.run(0, 7), 2);
        due("living", x.hour(0, 2, 3), 1);
        due("most bread", x.fate(0, 0, 3), 4);
        due("at hour", x.fate(0, 0, 4), 0);
        // a need of 0 starves nobody, and an hour counts from 1 for meals
        ShakenBread y = Check.with("hours 3; eat 0 1; plain 0 0;");
        due("need 0", y.run(0, 0), 0);
        ShakenBread z = Check.with("hours 3; eat 1 3; plain 0 0;");
        due("the hour of the meal", z.fate(0, 0, 0), 2);
    }

    // promise 13
    private static void gloves() {
        due("gloves on the giver", Check.with("law first; hours 1; eat 1 1; plain 0 1; plain 0 1;").gloves(0), 1);
        due("no gloves needed", Check.with("law more; hours 1; eat 1 1; plain 0 1; plain 0 1;").gloves(0), 0);
        due("none helps", Check.with("hours 1; eat 1 1; plain 0 0;").gloves(0), NONE);
        // the shy ones stay shy: if 1's rank or manner changed, 0 and 1 would shake hands
        due("ranks stay", Check.with("law last; hours 1; eat 1 1; shy 0 0; shy 0 2; plain 1 0;").gloves(0), NONE);
        due("the least of several",
            Check.with("size 2 2; law first; hours 1; eat 1 1; plain 0 1; plain 0 1; plain 1 1; plain 1 1;").gloves(0), 5);
        due("fewest ahead of least", Check.with("hours 3; eat 2 2; plain 0 2; plain 0 0; plain 2 3; plain 2 5; plain 0 2;"
            + "errand 3 1 0;").gloves(0), 16);
        due("whoever has gloves on needs none",
            Check.with("law first; hours 1; eat 1 1; gloved 0 1; plain 0 1; plain 0 1;").gloves(0), 2);
    }

    // promise 14
    private static void order() {
        ShakenBread x = Check.with("size 2 2; law first; hours 1; eat 1 1; plain 0 1; plain 0 1;");
        int[] want = {0, 0, 1, 0, NONE};
        for (int what = 0; what < want.length; what++) {
            due("order " + what, x.order(0, what), want[what]);
        }
        due("order -1", x.order(0, -1), NONE);
        ShakenBread y = Check.with("hours 1; eat 1 1; plain 0 0;");
        for (int what = 0; what < 4; what++) {
            due("none helps " + what, y.order(0, what), NONE);
        }
        ShakenBread full = Check.with("size 2 2; law first; hours 1; eat 1 1; polite 0 1; plain 0 1; plain 1 1; plain 2 1;"
            + "plain 3 1;");
        due("no cell to be alone in", full.order(0, 0), NONE);
        // 1 has to come to 0 in the hour of the meal, or 0 to him: the first by hour and one
        ShakenBread z = Check.with("size 2 2; hours 2; eat 1 2; plain 3 2; plain 2 0;");
        int[] zWant = {0, 0, 2, 0};
        for (int what = 0; what < 4; what++) {
            due("order " + what, z.order(0, what), zWant[what]);
        }
    }

    // promise 15
    private static void walk() {
        ShakenBread x = Check.with("size 2 2; law last; hours 2; eat 0 24; plain 0 0; plain 1 3; plain 2 1;");
        due("bread", x.walk(0, 0, 0, 1, 0), 1);
        due("east ahead of south", x.walk(0, 0, 0, 1, 10), 1);
        due("bread of two", x.walk(0, 0, 0, 2, 0), 2);
        due("east", x.walk(0, 0, 0, 2, 10), 1);
        due("stays", x.walk(0, 0, 0, 2, 11), 4);
        due("too many hours", x.walk(0, 0, 1, 2, 0), NONE);
        due("m 0", x.walk(0, 0, 0, 0, 0), NONE);
        due("m 5", x.walk(0, 0, 0, 5, 0), NONE);
        due("what 11 of 1", x.walk(0, 0, 0, 1, 11), NONE);
        due("what 1", x.walk(0, 0, 0, 1, 1), NONE);
        due("what -1", x.walk(0, 0, 0, 1, -1), NONE);
        due("nobody", x.walk(0, 3, 0, 1, 0), NONE);
        due("hour 2", x.walk(0, 0, 2, 1, 0), NONE);
        ShakenBread corner = Check.with("size 2 2; hours 1; law first; polite 2 3; plain 0 0; plain 3 0; plain 2 0;");
        due("not out of the town", corner.walk(0, 0, 0, 1, 10), 0);
        due("bread there", corner.walk(0, 0, 0, 1, 0), 2);
        ShakenBread edge = Check.with("size 2 2; hours 1; law first; polite 1 3; plain 0 0; plain 3 0; plain 1 0;");
        due("not over the edge", edge.walk(0, 0, 0, 1, 10), 2);
        ShakenBread y = Check.with("size 2 2; law last; hours 2; eat 0 24; plain 0 0; plain 1 3; errand 0 3;");
        due("from his own cell", y.walk(0, 0, 0, 1, 10), 1);
        due("from his errand's", y.walk(0, 0, 1, 1, 10), 0);
        due("bread", y.walk(0, 0, 1, 1, 0), 1);
        ShakenBread four = Check.with("size 3 3; law last; hours 4; eat 0 24; plain 4 0; plain 8 9;");
        int[] ways = {1, 2, 4, 4};
        for (int i = 0; i < 4; i++) {
            due("way " + i, four.walk(0, 0, 0, 4, 10 + i), ways[i]);
        }
        due("bread of four", four.walk(0, 0, 0, 4, 0), 3);
        due("north ahead of all", Check.with("size 3 3; hours 1; plain 4 0;").walk(0, 0, 0, 1, 10), 0);
        due("no north, no west", Check.with("size 2 2; hours 1; plain 0 0;").walk(0, 0, 0, 1, 10), 1);
        due("no east, no south", Check.with("size 2 2; hours 1; plain 3 0;").walk(0, 0, 0, 1, 10), 0);
        due("west", Check.with("size 2 2; hours 1; law last; plain 3 0; plain 2 1;").walk(0, 0, 0, 1, 10), 3);
        due("south", Check.with("size 2 2; hours 1; law last; plain 1 0; plain 3 1;").walk(0, 0, 0, 1, 10), 2);
    }

    // promise 16
    private static void feeds() {
        ShakenBread x = Check.with("hours 1; eat 4 1; plain 0 3; plain 0 3;");
        due("feeds", x.feeds(0, false), 1);
        due("starved then", x.feeds(0, true), 1);
        ShakenBread y = Check.with("law last; hours 1; eat 9 1; plain 0 3; plain 0 3;");
        due("the least of several", y.feeds(0, false), 0);
        due("starved then", y.feeds(0, true), 2);
        ShakenBread z = Check.with("hours 1; eat 4 1; shy 0 3; polite 1 3; polite 0 3;");
        due("less of several", z.feeds(0, true), 2);
    }

    // promise 17
    private static void peace() {
        String three = "hours 1; plain 0 0; plain 0 0; plain 0 0;";
        due("two of three", Check.with(three + "quarrel 0 1; quarrel 0 2; quarrel 1 2;").peace(0), 3);
        due("over another one", Check.with(three + "quarrel 0 1;").peace(0), 0);
        due("one", Check.with(three + "quarrel 2 1; quarrel 2 0;").peace(0), 1);
        due("fewest ahead of least", Check.with(three + "quarrel 0 1; quarrel 0 1; quarrel 0 2;").peace(0), 4);
        due("told twice", Check.with("hours 1; plain 0 0; plain 0 0; quarrel 0 1; quarrel 1 0;").peace(0), 3);
        due("apart", Check.with("hours 1; plain 0 0; plain 1 0;").peace(0), NONE);
        due("one alone", Check.with("plain 0 0;").peace(0), 0);
        due("two shy ones", Check.with("shy 0 0; shy 0 0;").peace(0), NONE);
    }

    // promise 18
    private static void loaf() {
        ShakenBread x = Check.with("hours 2; eat 1 2; plain 0 0; plain 1 0;");
        due("saved", x.loaf(0, 0, 0, 1, 0), 1);
        due("felt", x.loaf(0, 0, 0, 1, 10), 0);
        due("felt by living", x.loaf(0, 0, 1, 1, 10), 1);
        due("not felt", x.loaf(0, 0, 0, 1, 11), NONE);
        due("n 0", x.loaf(0, 0, 0, 0, 0), -1000);
        due("n 31", x.loaf(0, 0, 0, 31, 0), -1000);
        due("n 30", x.loaf(0, 0, 0, 30, 0), 1);
        due("felt by nobody", x.loaf(0, 0, 0, 1, 12), -1000);
        due("what 1", x.loaf(0, 0, 0, 1, 1), -1000);
        due("hour 2", x.loaf(0, 0, 2, 1, 0), -1000);
        due("to nobody", x.loaf(0, 2, 0, 1, 0), -1000);
        ShakenBread y = Check.with("law less; hours 1; eat 1 1; plain 0 1; plain 0 1;");
        due("more starve", y.loaf(0, 0, 0, 1, 0), -1);
        ShakenBread dead = Check.with("hours 3; eat 1 1; plain 0 0;");
        due("to one who is dead", dead.loaf(0, 0, 2, 5, 0), 0);
        due("is felt by him", dead.loaf(0, 0, 2, 5, 10), 2);
    }

    // promise 19
    private static void wedding() {
        ShakenBread x = Check.with("size 2 2; hours 1; eat 1 1; law first; plain 0 1; plain 1 1; polite 2 0;");
        due("shakes", x.wedding(0, 0, 3, 0), 3);
        due("most bread", x.wedding(0, 0, 3, 1), 1);
        due("starved", x.wedding(0, 0, 3, 2), 2);
        due("what 3", x.wedding(0, 0, 3, 3), NONE);
        due("what -1", x.wedding(0, 0, 3, -1), NONE);
        due("cell 4", x.wedding(0, 0, 4, 0), NONE);
        due("cell -1", x.wedding(0, 0, -1, 0), NONE);
        due("hour 1", x.wedding(0, 1, 0, 0), NONE);
        ShakenBread y = Check.with("hours 2; eat 9 1; plain 0 8; plain 1 1;");
        due("shakes ahead of the meal", y.wedding(0, 0, 3, 0), 1);
        due("nobody lives", y.wedding(0, 0, 3, 1), NONE);
        due("all starve", y.wedding(0, 0, 3, 2), 2);
        due("the dead come to none", y.wedding(0, 1, 3, 0), 0);
        due("the least of several", Check.with("hours 1; plain 1 2; plain 0 2;").wedding(0, 0, 8, 1), 0);
    }

    // promise 20
    private static void stays() {
        ShakenBread x = Check.with("hours 1; eat 1 1; law first; plain 0 1; plain 0 1; plain 1 2; plain 1 2;");
        due("without", x.run(0, 0), 1);
        due("0 stays", x.stays(0, 0, 0), 0);
        due("2 stays", x.stays(0, 2, 0), 1);
        due("ill by 0 himself", x.stays(0, 0, 10), 1);
        due("ill by 1", x.stays(0, 0, 11), 1);
        due("ill by 2", x.stays(0, 0, 12), 2);
        due("ill by nobody", x.stays(0, 0, 14), NONE);
        due("what 1", x.stays(0, 0, 1), NONE);
        due("what 9", x.stays(0, 0, 9), NONE);
        due("nobody stays", x.stays(0, 4, 0), NONE);
    }

    // promise 21
    private static void painted() {
        ShakenBread x = Check.with("hours 2; law first; eat 1 2; plain 0 2; plain 0 0;");
        due("with both", x.painted(0, 0, 0, 0), 3);
        due("the giver has none left", x.painted(0, 0, 1, 0), 2);
        due("no bite yet", x.painted(0, 0, 0, 1), NONE);
        due("bite", x.painted(0, 0, 1, 1), 1);
        due("no bread", x.painted(0, 1, 0, 0), -2);
        due("what 2", x.painted(0, 0, 0, 2), -2);
        due("hour 2", x.painted(0, 0, 2, 0), -2);
        due("nobody", x.painted(0, 2, 0, 0), -2);
        ShakenBread y = Check.with("hours 1; eat 1 1; plain 0 1; gloved 0 3;");
        due("eaten up", y.painted(0, 0, 0, 0), 0);
        due("bite", y.painted(0, 0, 0, 1), 0);
        due("of another", y.painted(0, 1, 0, 0), 2);
        ShakenBread z = Check.with("hours 1; eat 0 1; plain 0 1;");
        due("no need, no bite", z.painted(0, 0, 0, 1), NONE);
        due("still there", z.painted(0, 0, 0, 0), 1);
        ShakenBread dead = Check.with("hours 2; eat 3 1; plain 0 2;");
        due("the dead one keeps it", dead.painted(0, 0, 1, 0), 1);
        due("and has not eaten", dead.painted(0, 0, 1, 1), NONE);
    }

    // promise 22
    private static void fever() {
        ShakenBread x = Check.with("hours 2; plain 0 0; plain 0 0; plain 0 0; errand 2 1 0;");
        due("hour 0", x.fever(0, 0, 0, NONE), 3);
        due("hour 1", x.fever(0, 0, 1, NONE), 7);
        due("alone", x.fever(0, 2, 0, NONE), 4);
        due("caught", x.fever(0, 0, 0, 2), 1);
        due("caught, whatever the hour", x.fever(0, 0, 1, 1), 0);
        due("both are one", x.fever(0, 0, 0, 0), -2);
        due("of nobody", x.fever(0, 0, 0, 3), -2);
        due("of -2", x.fever(0, 0, 0, -2), -2);
        due("hour 2", x.fever(0, 0, 2, NONE), -2);
        due("nobody", x.fever(0, 3, 0, NONE), -2);
        ShakenBread y = Check.with("hours 2; plain 0 0; plain 0 0; plain 0 0; quarrel 0 2;");
        due("couple by couple", y.fever(0, 2, 0, NONE), 6);
        due("the next hour", y.fever(0, 2, 1, NONE), 7);
        due("in one hour", y.fever(0, 0, 0, NONE), 7);
        ShakenBread z = Check.with("hours 2; plain 0 0; gloved 0 0; plain 0 0; quarrel 0 2;");
        due("gloves", z.fever(0, 0, 1, NONE), 1);
        due("never", z.fever(0, 0, 0, 2), NONE);
        due("from gloves", z.fever(0, 1, 1, NONE), 2);
    }

    // promise 23: by seed 1 the first numbers below 10 are 8 (16838) and 6 (38526)
    private static void drawn() {
        ShakenBread x = Check.with("hours 2; plain 0 0; plain 0 0;");
        due("k 10", x.drawn(0, 0, 1, 10), 3);
        due("k 8: the second one", x.drawn(0, 0, 1, 8), 3);
        due("k 7", x.drawn(0, 1, 1, 7), 3);
        due("k 6", x.drawn(0, 0, 1, 6), 1);
        due("k 0", x.drawn(0, 1, 1, 0), 2);
        due("k 11", x.drawn(0, 0, 1, 11), NONE);
        due("k -1", x.drawn(0, 0, 1, -1), NONE);
        due("nobody", x.drawn(0, 2, 1, 5), NONE);
        ShakenBread one = Check.with("hours 1; plain 0 0; plain 0 0;");
        due("k 9", one.drawn(0, 0, 1, 9), 3);
        due("k 8", one.drawn(0, 0, 1, 8), 1);
        ShakenBread gloved = Check.with("hours 2; gloved 0 0; plain 0 0; plain 0 0;");
        due("no number is drawn for gloves", gloved.drawn(0, 1, 1, 8), 6);
        due("from gloves", gloved.drawn(0, 0, 1, 10), 1);
        ShakenBread three = Check.with("hours 1; plain 0 0; plain 0 0; plain 0 0;");
        due("none for two who are well or ill", three.drawn(0, 2, 1, 7), 6);
    }

    private static final String MAYBE = "hours 1; plain 0 2; plain 0 1; extra 0 2; extra 1 1;";

    // promises 24, 25
    private static void worlds() {
        ShakenBread x = Check.with(MAYBE, "", "pocket 0 0 2;");
        due("worlds", x.worlds(0, 0, 0), 6);
        due("runs", x.worlds(0, 0, 1), 6);
        due("worlds", x.worlds(0, 1, 0), 3);
        due("runs", x.worlds(0, 1, 1), 6);
        due("least", x.pocket(0, 0, 0, 0, false), 1);
        due("most", x.pocket(0, 0, 0, 0, true), 3);
        due("least of 1", x.pocket(0, 1, 1, 0, false), 2);
        due("most of 1", x.pocket(0, 1, 1, 0, true), 3);
        due("what 4", x.worlds(0, 0, 4), NONE);
        due("what -1", x.worlds(0, 0, -1), NONE);
        due("no town", x.worlds(1, 0, 0), NONE);
        due("no book", x.worlds(0, 2, 0), NONE);
        due("pocket of nobody", x.pocket(0, 0, 2, 0, true), NONE);
        ShakenBread later = Check.with("hours 2;" + MAYBE.replace("hours 1;", ""), "", "pocket 0 0 2;");
        due("pocket of nobody", later.pocket(0, 0, 8, 0, true), NONE);
        due("a town", later.worlds(0, 1, 0), 3);
        Check.text(later, 0, NONE, "hours 1; plain 0 2; extra 0 3;");
        due("another town", later.worlds(1, 1, 0), 1);
        due("another book", later.worlds(1, 0, 0), 4);
        due("the first town", later.worlds(0, 0, 0), 6);
        due("pocket of no hour", x.pocket(0, 0, 0, 1, true), NONE);
        due("pocket of no book", x.pocket(0, 2, 0, 0, true), NONE);
        ShakenBread y = Check.with(MAYBE + "eat 3 1;", "", "pocket 0 0 2; pocket 1 0 2;", "");
        // he who starves keeps 2, whoever has 3 eats them: (1,2) (2,2) (0,2) (2,2) (2,0) (0,0)
        due("doomed", y.worlds(0, 0, 2), 0);
        due("danger", y.worlds(0, 0, 3), 3);
        due("two worlds", y.worlds(0, 1, 0), 2);
        due("doomed", y.worlds(0, 1, 2), 3);
        due("danger", y.worlds(0, 1, 3), 3);
        Check.text(y, 1, 1, "pocket 0 0 9;");
        due("no world", y.worlds(0, 1, 0), 0);
        due("but runs", y.worlds(0, 1, 1), 6);
        due("no doomed", y.worlds(0, 1, 2), NONE);
        due("no danger", y.worlds(0, 1, 3), NONE);
        due("no pocket", y.pocket(0, 1, 0, 0, true), NONE);
        Check.text(y, 1, 1, "pocket 2 0 0;");
        due("one who is not there", y.worlds(0, 1, 0), 0);
        Check.text(y, 1, 1, "pocket 0 1 0;");
        due("an hour that is not there", y.worlds(0, 1, 0), 0);
        due("an image", y.image(1), true);
        Check.text(y, 1, 1, "");
        due("all worlds", y.worlds(0, 1, 0), 6);
        Check.text(y, 0, 0, "hours 1; plain 0 2; extra 0 3;");
        due("of another town", y.worlds(0, 1, 0), 4);
        due("again", y.again(1), true);
        due("as it was", y.worlds(0, 1, 0), 0);
        due("and its runs", y.worlds(0, 1, 1), 6);
        manyWorlds();
    }

    private static void manyWorlds() {
        String five = "shy 0 1;shy 0 1;shy 0 1;shy 0 1;shy 0 1;extra 0 3;extra 1 3;extra 2 3;extra 3 3;extra 4 3;";
        ShakenBread x = Check.with(five, "pocket 4 0 4;");
        due("1024 runs", x.worlds(0, 0, 1), 1024);
        due("a quarter of them", x.worlds(0, 0, 0), 256);
        due("most", x.pocket(0, 0, 3, 0, true), 4);
        Check.text(x, 0, 0, five + "shy 0 1; extra 5 1;");
        due("2048 runs", x.worlds(0, 0, 1), NONE);
        due("no worlds told", x.worlds(0, 0, 0), NONE);
        due("no pocket told", x.pocket(0, 0, 0, 0, false), NONE);
        due("no search told", x.search(0, 0, 0), NONE);
    }

    // promise 26
    private static void search() {
        ShakenBread x = Check.with(MAYBE, "pocket 0 0 2;", "pocket 0 0 9;");
        int[] want = {0, 1, 2, NONE};
        for (int what = 0; what < want.length; what++) {
            due("search " + what, x.search(0, 0, what), want[what]);
        }
        due("search -1", x.search(0, 0, -1), NONE);
        due("no world", x.search(0, 1, 0), NONE);
        due("no book", x.search(0, 2, 0), NONE);
        ShakenBread y = Check.with("hours 2; shy 0 1; shy 0 1; extra 1 3;", "");
        due("the first hour", y.search(0, 0, 0), 0);
        due("who parts best", y.search(0, 0, 1), 1);
        due("into parts of one", y.search(0, 0, 2), 1);
    }

    // promise 27
    private static void news() {
        ShakenBread x = Check.with("hours 2; plain 0 0; gloved 0 0; plain 0 0; quarrel 0 2;");
        due("over gloves", x.news(0, 0, 2), 0);
        due("couple by couple", x.news(0, 2, 0), 1);
        due("both are one", x.news(0, 1, 1), NONE);
        due("to nobody", x.news(0, 1, 3), NONE);
        due("to nobody", x.news(0, 1, 32), NONE);
        due("from nobody", x.news(0, 32, 1), NONE);
        due("from nobody", x.news(0, -1, 1), NONE);
        due("never", Check.with("plain 0 0; plain 1 0;").news(0, 0, 1), NONE);
    }

    // promise 28
    private static void aid() {
        due("two ounces", Check.with("hours 1; eat 3 1; plain 0 1;").aid(0, 0), 2);
        due("thirty", Check.with("hours 4; eat 9 1; plain 0 6;").aid(0, 0), 30);
        due("not thirty-one", Check.with("hours 4; eat 9 1; plain 0 5;").aid(0, 0), NONE);
        due("none needed", Check.with("hours 1; eat 1 1; plain 0 1;").aid(0, 0), 0);
        ShakenBread x = Check.with("hours 1; eat 1 1; plain 0 1; plain 1 0;");
        due("it can't come over", x.aid(0, 0), NONE);
        due("to him alone", x.aid(0, 1), 1);
        due("to nobody", x.aid(0, 2), NONE);
    }

    // promise 29
    private static void hunger() {
        due("five", Check.with("hours 1; eat 1 1; plain 0 5;").hunger(0, false), 5);
        due("nine at most", Check.with("hours 1; eat 1 1; plain 0 30;").hunger(0, false), 9);
        due("nothing", Check.with("hours 1; eat 1 1; plain 0 0;").hunger(0, false), 0);
        due("fast", Check.with("hours 4; eat 2 1; plain 0 4;").hunger(0, true), 2);
        due("nobody there", Check.with("eat 2 1;").hunger(0, false), 9);
        due("once a day", Check.with("hours 24; eat 5 1; plain 0 5;").hunger(0, true), 13);
        due("by none", Check.with("hours 24; eat 5 1; plain 0 4;").hunger(0, true), NONE);
    }

    // promise 30
    private static void swap() {
        ShakenBread x = Check.with("size 2 2; law first; hours 1; eat 1 1; plain 0 1; plain 0 1; polite 1 2;");
        int[] want = {0, 2, 0, NONE};
        for (int what = 0; what < want.length; what++) {
            due("swap " + what, x.swap(0, what), want[what]);
        }
        due("swap -1", x.swap(0, -1), NONE);
        due("none", Check.with("hours 1; plain 0 0; plain 1 0;").swap(0, 0), NONE);
        // the errand goes to the other one, too: 1 has none then
        ShakenBread y = Check.with("size 2 2; hours 2; eat 1 2; plain 0 0; gloved 1 2; plain 2 2; errand 1 3 0;");
        due("errands too", y.swap(0, 0), 1);
        due("errands too", y.swap(0, 1), 2);
    }

    // promise 31
    private static void wed() {
        ShakenBread x = Check.with("size 2 2; hours 2; eat 1 2; plain 0 2; plain 1 0;");
        due("the first hour", x.wed(0, false), 0);
        due("starved then", x.wed(0, true), 0);
        // behind a wedding in hour 0 he still has to give his last ounce in hour 1
        ShakenBread y = Check.with("size 2 2; hours 2; eat 1 2; law first; plain 0 1; plain 1 1; polite 2 3; errand 1 1 0;");
        due("a later hour", y.wed(0, false), 1);
        due("starved then", y.wed(0, true), 0);
        ShakenBread harm = Check.with("hours 2; eat 1 2; law first; plain 0 1; plain 1 1;");
        due("any hour is worse than none", harm.wed(0, false), 0);
        due("starved then", harm.wed(0, true), 1);
        ShakenBread z = Check.with("hours 3; eat 1 1; law less; plain 0 3; plain 1 2;");
        due("the first of several", z.wed(0, false), 0);
        due("starved then", z.wed(0, true), 1);
    }

    // promise 32
    private static void tunnel() {
        ShakenBread x = Check.with("hours 1; eat 1 1; plain 0 1; plain 1 0; plain 2 0;");
        due("who", x.tunnel(0, 0, 1, false), 1);
        due("saved", x.tunnel(0, 0, 1, true), 1);
        due("n 31", x.tunnel(0, 0, 31, true), -1000);
        due("n 0", x.tunnel(0, 0, 0, false), NONE);
        due("hour 1", x.tunnel(0, 1, 1, true), -1000);
        due("hour -1", x.tunnel(0, -1, 1, false), NONE);
        ShakenBread y = Check.with("law less; hours 1; eat 1 1; plain 0 1; plain 0 1;");
        due("it saves fewer", y.tunnel(0, 0, 1, true), -1);
        due("the least", y.tunnel(0, 0, 1, false), 0);
    }

    // promise 33
    private static void richest() {
        ShakenBread x = Check.with("hours 1; plain 0 2; plain 0 1;");
        int[] want = {1, 1, 0, 0, NONE};
        for (int law = 0; law < want.length; law++) {
            due("richest " + law, x.richest(0, law), want[law]);
        }
        due("even", x.richest(0, NONE), 0);
        due("law -2", x.richest(0, -2), NONE);
        due("even by more", Check.with("hours 1; polite 0 3; plain 0 1; plain 0 1; quarrel 0 2; law less;")
            .richest(0, NONE), 0);
    }

    // promise 34
    private static void miser() {
        ShakenBread x = Check.with("hours 1; law first; plain 0 2; plain 0 0;");
        int[] want = {0, 1, 1, 2, -2};
        for (int what = 0; what < want.length; what++) {
            due("miser " + what, x.miser(0, what), want[what]);
        }
        due("miser -1", x.miser(0, -1), -2);
        ShakenBread y = Check.with("hours 1; law first; gloved 0 2; plain 0 0;");
        int[] none = {NONE, 0, 0, 1};
        for (int what = 0; what < none.length; what++) {
            due("no miser " + what, y.miser(0, what), none[what]);
        }
        ShakenBread restless = Check.with("size 2 2;hours 6;law more;eat 3 2;shy 1 2;polite 0 4;polite 1 2;polite 0 4;"
            + "errand 1 1 1;errand 3 1 0;");
        due("more than 20 rounds", restless.miser(0, 3), NONE);
        ShakenBread z = Check.with("hours 2; law first; gloved 0 2; plain 1 3; plain 1 0;");
        int[] beside = {1, 2, 2, 2};
        for (int what = 0; what < beside.length; what++) {
            due("beside gloves by manner " + what, z.miser(0, what), beside[what]);
        }
    }

    // promises 36, 37
    private static void images() {
        ShakenBread x = Check.with("law last; plain 0 7;", "pocket 0 0 7;");
        Check.text(x, 0, NONE, "law 3;");
        Check.tape(x, "size 2 2;".getBytes());
        due("image 0", x.image(0), true);
        due("image 3", x.image(3), false);
        due("image -1", x.image(-1), false);
        due("tape", x.text(0, NONE), 1);
        due("another town", Check.text(x, 0, 0, "law less;"), 0);
        due("another book", Check.text(x, 1, 0, ""), 0);
        due("image 2", x.image(2), true);
        due("again 1", x.again(1), false);
        due("again 3", x.again(3), false);
        due("again -1", x.again(-1), false);
        due("again 0", x.again(0), true);
        due("law", x.town(0, 2), 3);
        due("bread", x.run(0, 4), 5);
        due("towns", x.count(0), 1);
        due("notes", x.note(0, NONE, 0), 1);
        due("fault", x.fault(0), 1);
        due("place", x.fault(1), 4);
        due("tape", x.end(10), NONE);
        due("tape", x.end(9), 9);
        due("its text", x.text(0, NONE), 1);
        due("W", x.town(1, 0), 2);
        due("another image stays", x.again(2), true);
        due("law", x.town(0, 2), 2);
        due("fault", x.fault(0), 0);
        due("towns", x.count(0), 2);
        due("the first image stays", x.again(0), true);
        due("towns", x.count(0), 1);
        due("an image made again", x.again(2) && x.image(0) && x.again(0), true);
        due("towns", x.count(0), 2);
    }

    private static void noTown() {
        ShakenBread x = new ShakenBread();
        for (int t = -1; t < 3; t++) {
            due("person", x.person(t, 0, 0), NONE);
            due("at", x.at(t, 0, 0, 0), -1000);
            due("hour", x.hour(t, 0, 0), NONE);
            due("run", x.run(t, 0), -2);
            due("fate", x.fate(t, 0, 0), -2);
            due("gloves", x.gloves(t), NONE);
            due("order", x.order(t, 0), NONE);
            due("walk", x.walk(t, 0, 0, 1, 0), NONE);
            due("feeds", x.feeds(t, true), NONE);
            due("peace", x.peace(t), NONE);
            due("loaf", x.loaf(t, 0, 0, 1, 0), -1000);
            due("wedding", x.wedding(t, 0, 0, 0), NONE);
            due("stays", x.stays(t, 0, 0), NONE);
            due("painted", x.painted(t, 0, 0, 0), -2);
            due("fever", x.fever(t, 0, 0, NONE), -2);
            due("drawn", x.drawn(t, 0, 0, 5), NONE);
            due("worlds", x.worlds(t, 0, 0), NONE);
            due("pocket", x.pocket(t, 0, 0, 0, true), NONE);
            due("search", x.search(t, 0, 0), NONE);
            due("news", x.news(t, 0, 1), NONE);
            due("aid", x.aid(t, 0), NONE);
            due("hunger", x.hunger(t, true), NONE);
            due("swap", x.swap(t, 0), NONE);
            due("wed", x.wed(t, true), NONE);
            due("tunnel", x.tunnel(t, 0, 1, false), NONE);
            due("tunnel", x.tunnel(t, 0, 1, true), -1000);
            due("richest", x.richest(t, 0), NONE);
            due("miser", x.miser(t, 0), -2);
        }
    }

    private static void noPeople() {
        ShakenBread x = Check.with("", "");
        int[] run = {0, NONE, 0, 0, 0, NONE, 0, 0};
        for (int what = 0; what < run.length; what++) {
            due("run " + what, x.run(0, what), run[what]);
        }
        due("gloves", x.gloves(0), 0);
        due("order", x.order(0, 0), NONE);
        due("feeds", x.feeds(0, false), 0);
        due("starved", x.feeds(0, true), 0);
        due("peace", x.peace(0), 0);
        due("shakes", x.wedding(0, 0, 0, 0), 0);
        due("nobody", x.wedding(0, 0, 0, 1), NONE);
        due("worlds", x.worlds(0, 0, 0), 1);
        due("runs", x.worlds(0, 0, 1), 1);
        due("doomed", x.worlds(0, 0, 2), 0);
        due("search", x.search(0, 0, 0), NONE);
        due("wed", x.wed(0, false), 0);
        due("tunnel", x.tunnel(0, 0, 1, false), NONE);
        due("tunnel saved", x.tunnel(0, 0, 1, true), -1000);
        due("richest", x.richest(0, 0), NONE);
        due("even", x.richest(0, NONE), NONE);
        due("miser", x.miser(0, 0), NONE);
        due("more", x.miser(0, 1), 0);
        due("rest", x.miser(0, 2), 0);
        due("rounds", x.miser(0, 3), 1);
        Check.text(x, 1, NONE, "pocket 0 0 0;");
        due("no world", x.worlds(0, 1, 0), 0);
    }
}
