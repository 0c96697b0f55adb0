/** The runs and the questions about them, promises 9 to 34: the bounds, the empty, the full, the first of several. */
public final class RunEdgesTest {
    private static final int NONE = -1;
    private static final int ALL = 255;
    private static final String TWO_BY_TWO = "size 2 2;";
    private static final Check c = new Check();

    public static void main(String[] args) {
        hours();
        meals();
        needs();
        deadOnes();
        couplesInOrder();
        fullCell();
        bytesOfOunces();
        states();
        nobody();
        gloves();
        order();
        walk();
        feeds();
        peace();
        loaf();
        wedding();
        stays();
        painted();
        fever();
        drawn();
        worlds();
        pocket();
        search();
        news();
        aid();
        hunger();
        swap();
        wed();
        tunnel();
        richest();
        miser();
        rounds();
        lastCall();
        c.close("RunEdgesTest");
    }

    private static void due(String call, long got, long want) {
        c.due(call, got, want);
    }

    /** A call by one what after another, from 0 on. */
    private interface What {
        int of(int what);
    }

    private static void dueRow(String call, What answer, int... want) {
        for (int what = 0; what < want.length; what++) {
            due(call + " " + what, answer.of(what), want[what]);
        }
    }

    // ---- Terms 2: the run ----

    private static void hours() {
        ShakenBread one = Check.with("hours 1;eat 1 1;plain 0 1;plain 0 0;");
        dueRow("one hour", w -> one.hour(0, 0, w), 1, 1, 1, 2, 0);
        dueRow("one hour's run", w -> one.run(0, w), 1, 0, 1, 1, 0, 0, 1, 1);
        ShakenBread day = Check.with("size 6 6;hours 24;shy 35 1;shy 0 0;errand 0 1 2 3 4 5 6 7 8 9 10 11 34;errand 1 5;");
        for (int h = 0; h < 24; h++) {
            due("cell of errand in " + h, day.at(0, h, 0, 0), h < 11 ? h + 1 : 34);
            due("cell of one in " + h, day.at(0, h, 1, 0), 5);
        }
        ShakenBread home = Check.with("hours 24;shy 8 0;");
        due("without errand", home.at(0, 0, 0, 0), 8);
        due("without errand", home.at(0, 23, 0, 0), 8);
    }

    /** A meal when the hour and 1 is a number of times EVERY, the last hour's, too. */
    private static void meals() {
        for (int every = 1; every <= 24; every++) {
            ShakenBread x = Check.with("hours 24;plain 0 30;eat 1 " + every + ";");
            for (int h = 0; h < 24; h++) {
                due("eaten in " + h + " every " + every, x.hour(0, h, 2), (h + 1) % every == 0 ? 1 : 0);
            }
            due("eaten every " + every, x.run(0, 3), 24 / every);
            due("eaten by him", x.fate(0, 0, 2), 24 / every);
            due("left", x.run(0, 4), 30 - 24 / every);
        }
        due("every as many as hours", Check.with("hours 5;eat 1 5;plain 0 0;").run(0, 1), 4);
        due("every one more", Check.with("hours 5;eat 9 6;plain 0 0;").run(0, 0), 0);
        due("every 24 of 24", Check.with("hours 24;eat 1 24;plain 0 0;").fate(0, 0, 0), 23);
        due("every 24 of 23", Check.with("hours 23;eat 1 24;plain 0 0;").fate(0, 0, 0), NONE);
    }

    /** Who has just NEED eats it; who has one less starves, and keeps it. */
    private static void needs() {
        for (int need = 0; need <= 9; need++) {
            ShakenBread x = Check.with("hours 1;eat " + need + " 1;shy 0 " + need + ";shy 1 " + Math.max(0, need - 1) + ";");
            due("lives by " + need, x.at(0, 0, 0, 2), 1);
            due("has eaten", x.at(0, 0, 0, 1), 0);
            due("ate", x.fate(0, 0, 2), need);
            due("starves by " + (need - 1), x.at(0, 0, 1, 2), need == 0 ? 1 : 0);
            due("keeps", x.at(0, 0, 1, 1), Math.max(0, need - 1));
            due("ate nothing", x.fate(0, 1, 2), 0);
            due("starved", x.run(0, 0), need == 0 ? 0 : 1);
            due("eaten", x.hour(0, 0, 2), need);
        }
    }

    private static void deadOnes() {
        ShakenBread x = Check.with("hours 3;eat 2 1;law last;plain 0 6;plain 0 1;plain 0 6;quarrel 0 1;quarrel 1 2;");
        dueRow("1 starves", w -> x.fate(0, 1, w), 0, 0, 0, 1, 0);
        due("in the first hour", x.run(0, 1), 0);
        for (int h = 0; h < 3; h++) {
            due("he keeps his bread", x.at(0, h, 1, 1), 1);
            due("lives no more", x.at(0, h, 1, 2), 0);
            due("with nobody", x.at(0, h, 1, 3), 0);
            due("those who live", x.hour(0, h, 3), h == 2 ? 1 : 5);
        }
        // 2 gives one to 0 each hour: 7 and 5, then 5 and 3; 6 and 2, then 4 and 0; nothing, and 2 starves
        dueRow("2 starves", w -> x.fate(0, 2, w), 2, 3, 4, 3, 0);
        due("one couple shakes", x.run(0, 6), 1);
        due("two parts", x.run(0, 7), 2);
        ShakenBread y = Check.with("hours 2;eat 1 1;law first;polite 0 2;gloved 0 0;gloved 0 0;");
        // 0 gives one to each of them and starves; behind that only those who live shake
        due("0 starves", y.fate(0, 0, 0), 0);
        due("behind the meal", y.hour(0, 0, 3), 6);
        due("two shake", y.hour(0, 1, 0), 1);
        due("not the dead one", y.at(0, 1, 0, 3), 0);
    }

    /** Couples by the first one's number, then by the second one's. */
    private static void couplesInOrder() {
        ShakenBread x = Check.with("hours 1;law first;plain 0 1;plain 0 0;plain 0 0;");
        // 0 gives to 1, has none for 2, then 1 gives to 2
        dueRow("on to the last", p -> x.at(0, 0, p, 1), 0, 0, 1);
        dueRow("came", p -> x.at(0, 0, p, 4), -1, 0, 1);
        due("two ounces", x.hour(0, 0, 1), 2);
        due("three shakes", x.hour(0, 0, 0), 3);
        ShakenBread y = Check.with("hours 1;law last;plain 0 0;plain 0 0;plain 0 1;");
        // 2 gives to 0; 1 has none
        dueRow("to the first", p -> y.at(0, 0, p, 1), 1, 0, 0);
        ShakenBread z = Check.with("hours 1;law first;shy 0 0;plain 0 1;polite 0 1;");
        // 1 greets 0; 2 greets 0, then 2 greets 1
        dueRow("by ranks", p -> z.at(0, 0, p, 1), 2, 0, 0);
        ShakenBread w = Check.with("hours 1;law first;plain 0 0;gloved 0 0;plain 0 1;");
        dueRow("plain and gloved are of one rank", p -> w.at(0, 0, p, 1), 0, 0, 1);
        ShakenBread v = Check.with("hours 1;law last;gloved 0 0;plain 0 1;");
        dueRow("gloves take", p -> v.at(0, 0, p, 1), 1, 0);
        ShakenBread u = Check.with("hours 1;law less;plain 0 1;plain 0 5;");
        dueRow("the last ounce", p -> u.at(0, 0, p, 1), 0, 6);
    }

    /** All eight in one cell: all bits, all couples. */
    private static void fullCell() {
        ShakenBread x = Check.with("hours 24;eat 9 24;law more;" + "plain 0 30;".repeat(8));
        dueRow("first hour", w -> x.hour(0, 0, w), 28, 0, 0, ALL, 240);
        dueRow("last hour", w -> x.hour(0, 23, w), 28, 0, 72, ALL, 168);
        dueRow("run", w -> x.run(0, w), 0, NONE, 28 * 24, 72, 168, 0, 28, 1);
        for (int p = 0; p < 8; p++) {
            due("with all others", x.at(0, 23, p, 3), ALL & ~(1 << p));
            due("fever of all", x.fever(0, p, 0, NONE), ALL);
            due("shakes", x.fate(0, p, 1), 7 * 24);
        }
        ShakenBread apart = Check.with("size 3 3;hours 24;eat 0 1;plain 0 0;plain 1 0;plain 2 0;plain 3 0;plain 4 0;plain 5 0;"
            + "plain 6 0;plain 7 0;");
        dueRow("all apart", w -> apart.run(0, w), 0, NONE, 0, 0, 0, 0, 0, 8);
        ShakenBread shy = Check.with("hours 2;" + "shy 0 1;".repeat(8));
        dueRow("all shy", w -> shy.run(0, w), 0, NONE, 0, 0, 8, 0, 0, 8);
        ShakenBread dead = Check.with("hours 2;eat 1 1;" + "plain 0 0;".repeat(8));
        dueRow("all starve", w -> dead.run(0, w), 8, 0, 28, 0, 0, 0, 28, 1);
        due("nobody lives", dead.hour(0, 0, 3), 0);
    }

    /** Ounces that came less those that went, from -7 to 7. */
    private static void bytesOfOunces() {
        ShakenBread gives = Check.with("hours 1;law first;polite 0 7;" + "gloved 0 0;".repeat(7));
        due("seven went", gives.at(0, 0, 0, 4), -7);
        due("none is left", gives.at(0, 0, 0, 1), 0);
        ShakenBread short1 = Check.with("hours 1;law first;polite 0 6;" + "gloved 0 0;".repeat(7));
        due("six went", short1.at(0, 0, 0, 4), -6);
        due("none for the last", short1.at(0, 0, 7, 4), 0);
        due("one for the last but one", short1.at(0, 0, 6, 4), 1);
        ShakenBread takes = Check.with("hours 1;law last;polite 0 30;" + "shy 0 1;".repeat(7));
        due("seven came", takes.at(0, 0, 0, 4), 7);
        due("37", takes.at(0, 0, 0, 1), 37);
        due("the last one's went", takes.at(0, 0, 7, 4), -1);
    }

    /** A STATE is what is behind an hour: what one has at first is in none. */
    private static void states() {
        ShakenBread x = Check.with("hours 2;law first;eat 1 2;plain 0 5;plain 0 0;");
        dueRow("gave one ahead of it", w -> x.fate(0, 0, w), NONE, 2, 1, 4, 0);
        dueRow("most behind the last", w -> x.fate(0, 1, w), NONE, 2, 1, 1, 0);
        ShakenBread y = Check.with("hours 24;eat 0 1;shy 0 3;");
        dueRow("the first of several", w -> y.fate(0, 0, w), NONE, 0, 0, 3, 0);
        ShakenBread z = Check.with("size 2 2;hours 24;eat 0 24;law last;plain 0 0;shy 1 2;errand 0 0 0 0 0 0 0 0 0 0 0 0 1;");
        dueRow("most in the 13th hour", w -> z.fate(0, 0, w), NONE, 13, 0, 2, 12);
        ShakenBread w = Check.with("hours 24;eat 1 24;plain 0 1;plain 0 0;law first;");
        due("starves in the last hour", w.run(0, 1), 23);
        due("who gave all", w.fate(0, 0, 0), 23);
    }

    private static void nobody() {
        ShakenBread x = Check.with("hours 24;", "");
        dueRow("run of nobody", w -> x.run(0, w), 0, NONE, 0, 0, 0, NONE, 0, 0);
        dueRow("hour of nobody", w -> x.hour(0, 23, w), 0, 0, 0, 0, 0);
        dueRow("wedding of nobody", w -> x.wedding(0, 23, 8, w), 0, NONE, 0);
        dueRow("worlds of nobody", w -> x.worlds(0, 0, w), 1, 1, 0, 0);
        dueRow("search of nobody", w -> x.search(0, 0, w), NONE, NONE, NONE);
        dueRow("order of nobody", w -> x.order(0, w), NONE, NONE, NONE, NONE);
        dueRow("swap of nobody", w -> x.swap(0, w), NONE, NONE, NONE);
        dueRow("miser of nobody", w -> x.miser(0, w), NONE, 0, 0, 1);
        dueRow("richest of nobody", w -> x.richest(0, w - 1), NONE, NONE, NONE, NONE, NONE);
        due("gloves of nobody", x.gloves(0), 0);
        due("peace of nobody", x.peace(0), 0);
        due("hunger of nobody", x.hunger(0, false), 9);
        due("fast of nobody", x.hunger(0, true), 1);
        due("wed of nobody", x.wed(0, false), 0);
        due("starved then", x.wed(0, true), 0);
        due("feeds nobody", x.feeds(0, false), 0);
        due("starved then", x.feeds(0, true), 0);
        due("tunnel to nobody", x.tunnel(0, 0, 1, false), NONE);
        due("saved", x.tunnel(0, 0, 1, true), -1000);
    }

    // ---- promises 13 to 17 ----

    private static void gloves() {
        for (int p = 0; p < 8; p++) {
            StringBuilder s = new StringBuilder("size 3 3;hours 1;eat 1 1;law first;");
            for (int q = 0; q < 8; q++) {
                boolean partner = q == (p == 7 ? 0 : 7);
                s.append(q == p ? "polite " : "plain ").append(partner || q == p ? 8 : q).append(" 1;");
            }
            due("gloves for " + p, Check.with(s.toString()).gloves(0), 1 << p);
        }
        String pairs = "plain 0 1;plain 0 1;plain 1 1;plain 1 1;plain 2 1;plain 2 1;plain 3 1;plain 3 1;hours 1;eat 1 1;";
        due("four givers", Check.with(pairs + "law first;").gloves(0), 0b01010101);
        due("four givers", Check.with(pairs + "law last;").gloves(0), 0b10101010);
        due("none", Check.with(pairs + "law more;").gloves(0), 0);
        due("all gloved by manner", Check.with("law first;hours 1;eat 1 1;" + "gloved 0 1;".repeat(8)).gloves(0), 0);
        due("not by all", Check.with("hours 1;eat 1 1;plain 0 1;plain 1 0;").gloves(0), NONE);
        due("any of two makes it", Check.with(TWO_BY_TWO + "hours 2;eat 2 2;law last;plain 0 2;shy 0 2;shy 1 2;")
            .gloves(0), 2);
        // whoever of the rank of a shy one wears gloves greets as he did: 1 gives to 0, whatever 0 wears
        due("his rank stays", Check.with("hours 1;eat 1 1;law last;shy 0 1;plain 0 0;").gloves(0), NONE);
        due("his rank stays", Check.with("hours 1;eat 1 1;law first;shy 0 1;plain 0 1;").gloves(0), 2);
    }

    private static void order() {
        String last = "hours 3;eat 2 3;law more;shy 3 4;shy 1 0;plain 1 1;";
        ShakenBread x = Check.with(TWO_BY_TWO + last);
        dueRow("last hour, one, cell", w -> x.order(0, w), 2, 2, 3, 1, NONE);
        ShakenBread wide = Check.with("size 6 6;" + last.replace("shy 3", "shy 35"));
        dueRow("cell 35", w -> wide.order(0, w), 2, 2, 35, 1, NONE);
        ShakenBread full = Check.with("hours 3;plain 0 2;plain 0 2;");
        dueRow("nobody starves anyway", w -> full.order(0, w), NONE, NONE, NONE, NONE);
        ShakenBread none = Check.with("hours 1;eat 9 1;plain 0 9;plain 1 0;");
        dueRow("not fewer", w -> none.order(0, w), NONE, NONE, NONE, NONE);
        ShakenBread first = Check.with(TWO_BY_TWO + "hours 1;eat 1 1;plain 1 0;plain 2 2;");
        dueRow("the first of two people", w -> first.order(0, w), 0, 0, 2, 0);
        // alone in any of three cells each of them keeps his ounce: the first is cell 0 but for his own
        ShakenBread cells = Check.with(TWO_BY_TWO + "hours 1;eat 1 1;law first;plain 3 1;plain 3 1;");
        dueRow("the first of several cells", w -> cells.order(0, w), 0, 0, 0, 0);
        // 0 has two ounces and gives to all: not to come to 1 and 2, but 1 to him, behind two cells where he is alone
        ShakenBread behind = Check.with(TWO_BY_TWO + "hours 1;eat 1 1;law first;plain 3 2;plain 0 0;gloved 0 1;");
        dueRow("to one behind empty cells", w -> behind.order(0, w), 0, 1, 3, 0);
        ShakenBread late = Check.with(TWO_BY_TWO + "hours 24;eat 1 24;law first;plain 0 1;plain 1 1;"
            + "errand 1 1 1 1 1 1 1 1 1 1 1 1 0;");
        // they meet from hour 11 on: 0 gives his ounce then, or has given it
        dueRow("no single hour helps", w -> late.order(0, w), NONE, NONE, NONE, NONE);
        // 0 would give his ounce to 1 in cell 8, or to 2 in cell 0, where 2 comes in the last hour only; cell 1 is empty then
        String ten = " 4 4 4 4 4 4 4 4 4 4";
        ShakenBread hide = Check.with("hours 12;eat 1 12;law first;plain 4 1;plain 5 1;gloved 3 5;errand 0" + ten + " 4 8;"
            + "errand 1" + ten.replace('4', '5') + " 5 8;errand 2" + ten.replace('4', '3') + " 3 0;");
        dueRow("in the last of more hours than people", w -> hide.order(0, w), 11, 0, 1, 0);
    }

    private static void walk() {
        String middle = "hours 4;eat 0 24;law last;plain 4 0;";
        int[] beside = {1, 5, 7, 3, 4};
        for (int way = 0; way < 5; way++) {
            ShakenBread x = Check.with(middle + "plain " + beside[way] + " 9;");
            due("one hour to the " + way, x.walk(0, 0, 3, 1, 10), way);
            due("bread there", x.walk(0, 0, 3, 1, 0), way == 4 ? 4 : 1);
            due("four hours to the " + way, x.walk(0, 0, 0, 4, 10), way);
            due("then he stays", x.walk(0, 0, 0, 4, 11), 4);
            due("then he stays", x.walk(0, 0, 0, 4, 13), 4);
            due("bread of four", x.walk(0, 0, 0, 4, 0), 4);
        }
        // all alike: the first by rows that stays in the town
        int[] firsts = {1, 1, 2, 0, 0, 0, 0, 0, 0};
        for (int cell = 0; cell < 9; cell++) {
            ShakenBread x = Check.with("hours 1;eat 0 1;plain " + cell + " 0;");
            due("first way from " + cell, x.walk(0, 0, 0, 1, 10), firsts[cell]);
        }
        // from 4 in 3 by 3: north to 1, east to 2, south to 5, north again
        ShakenBread around = Check.with("hours 4;eat 0 24;plain 4 0;");
        int[] rows = {0, 1, 2, 0};
        for (int i = 0; i < 4; i++) {
            due("first by rows " + i, around.walk(0, 0, 0, 4, 10 + i), rows[i]);
        }
        // a narrow town: west of the first column isn't the last column of the row above
        ShakenBread edge = Check.with(TWO_BY_TWO + "hours 1;eat 0 24;law last;plain 2 0;plain 1 9;");
        due("not around the west", edge.walk(0, 0, 0, 1, 0), 0);
        ShakenBread other = Check.with(TWO_BY_TWO + "hours 1;eat 0 24;law last;plain 1 0;plain 2 9;");
        due("not around the east", other.walk(0, 0, 0, 1, 0), 0);
        fromWhere();
        for (int m = 1; m <= 4; m++) {
            for (int number = 0; number < Math.pow(5, m); number++) {
                walkBeside(m, number, 14);
                walkBeside(m, number, 21);
            }
        }
    }

    /** Each walk in the town, by one who goes just so, and has an ounce for him in each hour. */
    private static void walkBeside(int m, int number, int start) {
        int[] ways = new int[m];
        int rest = number;
        for (int i = m - 1; i >= 0; i--) {
            ways[i] = rest % 5;
            rest /= 5;
        }
        StringBuilder errand = new StringBuilder("errand 1");
        int column = start % 6;
        int row = start / 6;
        for (int way : ways) {
            column += way == 1 ? 1 : way == 3 ? -1 : 0;
            row += way == 2 ? 1 : way == 0 ? -1 : 0;
            if (row < 0 || row > 5 || column < 0 || column > 5) {
                return;
            }
            errand.append(' ').append(row * 6 + column);
        }
        ShakenBread x = Check.with("size 6 6;hours " + m + ";eat 0 1;law last;plain " + start + " 0;plain 0 9;" + errand + ";");
        due("bread of walk " + number + " by " + m, x.walk(0, 0, 0, m, 0), m);
        for (int i = 0; i < m; i++) {
            due("way " + i + " of walk " + number + " by " + m, x.walk(0, 0, 0, m, 10 + i), ways[i]);
        }
    }

    /** Ahead of hour 0 he is in his own cell, ahead of a later one where his errand has him; behind it he is by errand again. */
    private static void fromWhere() {
        String town = "hours 4;eat 0 24;law last;plain 0 0;errand 0 8 8 7 6;";
        due("own cell, then east", Check.with(town + "plain 1 9;").walk(0, 0, 0, 1, 10), 1);
        due("own cell, then east", Check.with(town + "plain 1 9;").walk(0, 0, 0, 1, 0), 1);
        due("not from his errand's", Check.with(town + "plain 5 9;").walk(0, 0, 0, 1, 0), 0);
        due("from his errand's", Check.with(town + "plain 5 9;").walk(0, 0, 1, 1, 10), 0);
        due("from his errand's", Check.with(town + "plain 4 9;").walk(0, 0, 3, 1, 10), 0);
        due("by errand behind it", Check.with(town + "plain 6 9;").walk(0, 0, 0, 1, 0), 1);
        due("by errand behind it", Check.with(town + "plain 6 9;").walk(0, 0, 1, 2, 0), 2);
        ShakenBread dead = Check.with("hours 3;eat 1 1;law last;plain 0 0;plain 1 9;");
        due("a dead one gets nothing", dead.walk(0, 0, 1, 1, 0), 0);
        due("the first way all the same", dead.walk(0, 0, 1, 1, 10), 1);
        due("he who lives", dead.walk(0, 0, 0, 1, 0), 0);
        ShakenBread keeps = Check.with("hours 3;eat 9 1;law last;plain 0 5;plain 1 9;");
        due("a dead one keeps what he has", keeps.walk(0, 0, 1, 2, 0), 5);
    }

    private static void feeds() {
        String[] towns = {"hours 1;eat 2 1;shy 0 1;shy 1 2;", "hours 2;eat 2 1;plain 2 4;shy 2 2;",
            "hours 2;eat 2 1;plain 1 3;shy 1 1;", "hours 3;eat 2 1;shy 1 4;gloved 1 4;"};
        for (int law = 0; law < 4; law++) {
            for (String own : new String[] {"more", "first", "less", "last"}) {
                ShakenBread x = Check.with("law " + own + ";" + towns[law]);
                due("feeds by " + law, x.feeds(0, false), law);
                due("starved by " + law, x.feeds(0, true), 1);
            }
        }
        ShakenBread all = Check.with("hours 1;eat 1 1;" + "plain 0 0;".repeat(8));
        due("all starve by each", all.feeds(0, false), 0);
        due("all starve by each", all.feeds(0, true), 8);
    }

    private static void peace() {
        String star = "hours 1;plain 0 0;" + "shy 0 0;".repeat(6)
            + "quarrel 0 1;quarrel 0 2;quarrel 0 3;quarrel 0 4;quarrel 0 5;quarrel 0 6;";
        due("all six", Check.with(star).peace(0), 63);
        due("no quarrel, one part", Check.with("hours 1;plain 0 0;plain 0 0;").peace(0), 0);
        due("not by all", Check.with(star + "shy 1 0;").peace(0), NONE);
        due("a quarrel of those apart", Check.with("hours 1;plain 0 0;plain 1 0;quarrel 0 1;").peace(0), NONE);
        due("the last of six", Check.with("hours 1;plain 0 0;plain 0 0;plain 0 0;plain 0 0;plain 0 0;shy 0 0;shy 0 0;"
            + "quarrel 0 1;quarrel 1 2;quarrel 2 3;quarrel 3 4;quarrel 0 4;quarrel 5 6;").peace(0), 0);
        due("either of two", Check.with("hours 1;plain 0 0;shy 0 0;shy 0 0;shy 0 0;quarrel 0 1;quarrel 3 2;").peace(0), 1);
        due("only the sixth", Check.with("hours 1;plain 0 0;plain 0 0;shy 0 0;shy 0 0;plain 0 0;quarrel 2 3;quarrel 3 2;"
            + "quarrel 2 3;quarrel 0 2;quarrel 1 2;quarrel 4 2;").peace(0), 8);
        due("whoever starves has shaken", Check.with("hours 1;eat 1 1;plain 0 0;plain 0 0;quarrel 0 1;").peace(0), 1);
    }

    // ---- promises 18 to 20 ----

    private static void loaf() {
        for (int n : new int[] {1, 29, 30}) {
            ShakenBread x = Check.with("hours 2;eat 9 2;plain 0 0;plain 1 9;shy 0 9;");
            // 0 has 1 and 2 has 8 ahead of hour 1; of a great loaf 0 gives one back
            due("saved by " + n, x.loaf(0, 0, 1, n, 0), n == 1 ? 0 : 2);
            due("felt by him", x.loaf(0, 0, 1, n, 10), 1);
            due("not by one alone", x.loaf(0, 0, 0, n, 11), NONE);
        }
        ShakenBread far = Check.with("hours 24;eat 0 24;law first;polite 0 0;plain 0 0;errand 1 1 1 1 1 1 1 1 1 1 1 1 0;");
        due("felt at once", far.loaf(0, 0, 3, 1, 10), 3);
        due("felt in the last hour", far.loaf(0, 0, 23, 1, 10), NONE);
        due("felt by who gets it", far.loaf(0, 0, 23, 1, 11), 23);
        due("felt by who gets it", far.loaf(0, 0, 0, 1, 11), 12 - 1);
        ShakenBread lives = Check.with("hours 1;eat 1 1;plain 0 0;");
        due("no more bread, but he lives", lives.loaf(0, 0, 0, 1, 10), 0);
        due("one saved", lives.loaf(0, 0, 0, 1, 0), 1);
        String harm = "law less;hours 1;eat 1 1;plain 0 1;" + "plain 0 1;".repeat(7);
        due("seven more starve", Check.with(harm).loaf(0, 0, 0, 30, 0), -7);
        ShakenBread eight = Check.with("hours 1;eat 0 1;" + "shy 0 0;".repeat(8));
        for (int p = 0; p < 8; p++) {
            due("felt by the last", eight.loaf(0, 7, 0, 1, 10 + p), p == 7 ? 0 : NONE);
        }
        due("felt by nobody", eight.loaf(0, 7, 0, 1, 18), -1000);
    }

    private static void wedding() {
        ShakenBread x = Check.with("size 3 3;hours 24;eat 0 1;law first;plain 0 1;plain 1 1;plain 2 1;plain 3 1;plain 4 1;"
            + "plain 5 1;plain 6 1;plain 7 1;");
        dueRow("all meet", w -> x.wedding(0, 23, 8, w), 28, 7, 0, NONE);
        dueRow("all meet", w -> x.wedding(0, 0, 0, w), 28, 7, 0, NONE);
        ShakenBread even = Check.with("hours 1;eat 0 1;" + "shy 0 5;".repeat(8));
        dueRow("the least of all", w -> even.wedding(0, 0, 0, w), 0, 0, 0);
        ShakenBread quarrel = Check.with("hours 1;eat 0 1;plain 0 1;plain 1 2;quarrel 0 1;");
        dueRow("quarrels stay", w -> quarrel.wedding(0, 0, 5, w), 0, 1, 0);
        ShakenBread dead = Check.with("hours 2;eat 1 1;plain 0 0;plain 1 0;");
        dueRow("nobody lives", w -> dead.wedding(0, 1, 0, w), 0, NONE, 2);
        ShakenBread alone = Check.with("hours 2;eat 1 1;plain 0 0;plain 1 3;");
        dueRow("one lives", w -> alone.wedding(0, 1, 0, w), 0, 1, 1);
    }

    private static void stays() {
        ShakenBread x = Check.with("hours 2;eat 1 2;law first;polite 0 3;plain 0 0;plain 0 0;");
        due("without", x.run(0, 0), 2);
        due("the giver stays", x.stays(0, 0, 0), 2);
        due("the last one stays", x.stays(0, 2, 0), 1);
        dueRow("ill by each", p -> x.stays(0, 1, 10 + p), 2, 1, 2, NONE);
        ShakenBread all = Check.with("hours 24;eat 0 1;" + "plain 0 0;".repeat(8));
        due("seven", all.stays(0, 7, 10), 7);
        due("himself alone", all.stays(0, 7, 17), 1);
        ShakenBread gloved = Check.with("hours 24;eat 0 1;" + "gloved 0 0;".repeat(8));
        due("gloves", gloved.stays(0, 7, 10), 1);
        due("nobody more", gloved.stays(0, 7, 18), NONE);
    }

    // ---- promises 21 to 23, 27 ----

    private static void painted() {
        due("no bread", Check.with("hours 1;plain 0 0;").painted(0, 0, 0, 0), -2);
        due("no bread", Check.with("hours 1;plain 0 0;").painted(0, 0, 0, 1), -2);
        due("one ounce", Check.with("hours 1;plain 0 1;").painted(0, 0, 0, 0), 1);
        due("extra isn't bread", Check.with("hours 1;plain 0 0;extra 0 3;").painted(0, 0, 0, 0), -2);
        // he gives his one ounce on, behind the shake he has none; who gets it had one, gives one, and may have either
        ShakenBread x = Check.with("hours 1;eat 0 1;law first;plain 0 1;plain 0 1;plain 0 1;");
        due("his own", x.painted(0, 0, 0, 0), 6);
        due("of the second", x.painted(0, 1, 0, 0), 6);
        due("of the last", x.painted(0, 2, 0, 0), 4);
        ShakenBread both = Check.with("hours 24;eat 0 1;law first;polite 0 30;" + "gloved 0 0;".repeat(7));
        due("with all", both.painted(0, 0, 0, 0), ALL);
        due("30 are gone behind five hours", both.painted(0, 0, 4, 0), ALL - 1);
        due("two left behind four", both.painted(0, 0, 3, 0), ALL);
        // none behind a shake, though one comes back in the same hour
        ShakenBread back = Check.with("hours 1;eat 0 1;law first;plain 0 1;shy 0 0;polite 0 1;");
        due("the painted one is gone", back.painted(0, 0, 0, 0), 2);
        due("a new one isn't painted", back.painted(0, 2, 0, 0), 1);
        ShakenBread meal = Check.with("hours 3;eat 1 1;shy 0 2;");
        dueRow("behind each meal", h -> meal.painted(0, 0, h, 0), 1, 0, 0, -2);
        dueRow("the bite stays the first", h -> meal.painted(0, 0, h, 1), 0, 0, 0, -2);
        ShakenBread late = Check.with("hours 24;eat 1 24;shy 0 2;");
        due("no bite by 22", late.painted(0, 0, 22, 1), NONE);
        due("bite in 23", late.painted(0, 0, 23, 1), 23);
        // 5 comes in hour 11 and gives 7 an ounce an hour; 6 has less than 7 in the last hour only, in the last of 582 shakes
        ShakenBread full = Check.with("hours 24;eat 0 1;law less;plain 4 0;plain 4 0;plain 4 0;plain 4 0;plain 4 0;plain 5 13;"
            + "plain 4 26;gloved 4 14;errand 5 5 5 5 5 5 5 5 5 5 5 5 4;quarrel 5 6;");
        due("582 shakes", full.run(0, 2), 21 * 11 + 27 * 13);
        due("with him alone", full.painted(0, 6, 22, 0), 64);
        due("on by the last shake", full.painted(0, 6, 23, 0), 64 + 128);
        ShakenBread gone = Check.with("hours 2;eat 1 1;law first;plain 0 1;plain 0 0;");
        due("who gave it away starves, the other one bites", gone.painted(0, 0, 0, 1), 0);
        due("eaten up", gone.painted(0, 0, 0, 0), 0);
    }

    private static void fever() {
        ShakenBread x = Check.with("size 3 3;hours 24;eat 0 1;plain 0 0;plain 0 0;plain 1 0;gloved 0 0;"
            + "errand 2 1 1 1 1 1 1 1 1 1 1 1 0;");
        due("behind hour 10", x.fever(0, 0, 10, NONE), 3);
        due("behind hour 11", x.fever(0, 0, 11, NONE), 7);
        due("behind the last", x.fever(0, 0, 23, NONE), 7);
        due("caught in hour 0", x.fever(0, 0, 23, 1), 0);
        due("caught in hour 11", x.fever(0, 0, 0, 2), 11);
        due("never with gloves", x.fever(0, 0, 0, 3), NONE);
        due("never from gloves", x.fever(0, 3, 23, 0), NONE);
        due("ill himself", x.fever(0, 3, 23, NONE), 8);
        due("both are one", x.fever(0, 3, 23, 3), -2);
        ShakenBread last = Check.with("size 2 2;hours 12;eat 0 1;plain 0 0;plain 1 0;errand 1 1 1 1 1 1 1 1 1 1 1 1 0;");
        due("caught in the last hour", last.fever(0, 0, 0, 1), 11);
        due("behind it", last.fever(0, 1, 11, NONE), 3);
        due("ahead of it", last.fever(0, 1, 10, NONE), 2);
    }

    /** The numbers below 10 that a seed draws, one for each of the shakes by which an ill one may make another one ill. */
    private static int drawnByOne(int seed, int k, int shakes) {
        long x = seed & 0xffffffffL;
        for (int i = 0; i < shakes; i++) {
            x = (x * 1103515245L + 12345L) % 4294967296L;
            if (x / 65536 % 10 < k) {
                return 3;
            }
        }
        return 1;
    }

    private static void drawn() {
        int[] seeds = {0, 1, -1, 2, Integer.MIN_VALUE, Integer.MAX_VALUE, 65536, -65536, 1103515245, 12345, 0x7fff0000};
        for (int seed : seeds) {
            for (int hours = 1; hours <= 24; hours += hours < 3 ? 1 : 21) {
                ShakenBread x = Check.with("hours " + hours + ";eat 0 1;plain 0 0;plain 0 0;");
                for (int k = 0; k <= 10; k++) {
                    due("drawn by " + seed + " " + k, x.drawn(0, 0, seed, k), drawnByOne(seed, k, hours));
                }
                due("k 0", x.drawn(0, 1, seed, 0), 2);
                due("k 10", x.drawn(0, 1, seed, 10), 3);
                due("k -1", x.drawn(0, 1, seed, -1), NONE);
                due("k 11", x.drawn(0, 1, seed, 11), NONE);
            }
        }
        ShakenBread all = Check.with("hours 1;eat 0 1;" + "plain 0 0;".repeat(8));
        due("all eight", all.drawn(0, 0, 5, 10), ALL);
        due("the last one's", all.drawn(0, 7, 5, 10), ALL);
        due("nobody else's", all.drawn(0, 7, 5, 0), 128);
    }

    private static void news() {
        ShakenBread x = Check.with("size 2 2;hours 12;eat 0 1;gloved 0 0;gloved 1 0;gloved 1 0;gloved 3 0;"
            + "errand 1 1 1 1 1 1 1 1 1 1 1 1 0;");
        due("in the first hour", x.news(0, 1, 2), 0);
        due("in the last hour", x.news(0, 0, 1), 11);
        due("never", x.news(0, 0, 2), NONE);
        due("never", x.news(0, 0, 3), NONE);
        due("over another one", x.news(0, 2, 0), 11);
        ShakenBread shy = Check.with("hours 1;eat 0 1;shy 0 0;shy 0 0;plain 0 0;");
        due("couple by couple", shy.news(0, 0, 1), 0);
        due("too late for this hour", shy.news(0, 1, 0), NONE);
    }

    // ---- promises 24 to 26 ----

    private static void worlds() {
        String shy = "shy 0 1;";
        int[][] extras = {{}, {0}, {3}, {3, 3, 3, 3, 3}, {2, 2, 2, 2, 2, 3}, {3, 3, 3, 1, 2, 2}, {2, 2, 2, 2, 2, 2, 1},
            {3, 3, 3, 3, 3, 3, 3, 3}, {3, 3, 3, 3, 3, 1}, {1, 1, 1, 1, 1, 1, 1, 1}};
        for (int[] extra : extras) {
            StringBuilder s = new StringBuilder("hours 1;" + shy.repeat(extra.length));
            int runs = 1;
            for (int p = 0; p < extra.length; p++) {
                s.append("extra ").append(p).append(' ').append(extra[p]).append(';');
                runs *= extra[p] + 1;
            }
            ShakenBread x = Check.with(s.toString(), "");
            boolean told = runs <= 1024;
            due("worlds of " + runs, x.worlds(0, 0, 0), told ? runs : NONE);
            due("runs of " + runs, x.worlds(0, 0, 1), told ? runs : NONE);
            due("doomed of " + runs, x.worlds(0, 0, 2), told ? 0 : NONE);
            due("danger of " + runs, x.worlds(0, 0, 3), told ? 0 : NONE);
            due("pocket of " + runs, x.pocket(0, 0, 0, 0, true), told && extra.length > 0 ? 1 + extra[0] : NONE);
            due("search of " + runs, x.search(0, 0, 0), told && extra.length > 0 ? 0 : NONE);
        }
        ShakenBread last = Check.with("hours 2;eat 1 2;shy 0 0;shy 1 0;shy 2 2;extra 0 1;extra 1 1;", "", "pocket 0 0 1;");
        dueRow("in all, in any", w -> last.worlds(0, 0, w), 4, 4, 0, 3);
        dueRow("by a note", w -> last.worlds(0, 1, w), 2, 4, 0, 2);
        Check.text(last, 1, 1, "pocket 0 0 0;");
        dueRow("by another note", w -> last.worlds(0, 1, w), 2, 4, 1, 3);
        Check.text(last, 1, 1, "pocket 0 0 0;pocket 0 1 0;pocket 2 1 1;pocket 1 0 1;");
        dueRow("one world", w -> last.worlds(0, 1, w), 1, 4, 1, 1);
        Check.text(last, 1, 1, "pocket 0 0 2;");
        dueRow("no world", w -> last.worlds(0, 1, w), 0, 4, NONE, NONE);
        for (String missing : new String[] {"pocket 3 0 0;", "pocket 7 0 0;", "pocket 0 2 0;", "pocket 0 23 0;"}) {
            Check.text(last, 1, 1, missing);
            dueRow(missing, w -> last.worlds(0, 1, w), 0, 4, NONE, NONE);
            Check.text(last, 1, 1, "pocket 0 0 0;" + missing);
            dueRow("behind one that is so " + missing, w -> last.worlds(0, 1, w), 0, 4, NONE, NONE);
            Check.text(last, 1, 1, missing + "pocket 0 0 0;");
            dueRow("ahead of one that is so " + missing, w -> last.worlds(0, 1, w), 0, 4, NONE, NONE);
        }
        Check.text(last, 0, 0, "hours 1;eat 0 1;shy 0 2;");
        dueRow("nothing left of the town ahead", w -> last.worlds(0, 0, w), 1, 1, 0, 0);
        // who has more takes from who has less: either may starve by the other one's extra ounce
        ShakenBread other = Check.with("hours 1;eat 1 1;law less;plain 0 1;plain 0 1;extra 0 1;", "");
        dueRow("one starves in the one world alone", w -> other.worlds(0, 0, w), 2, 2, 0, 2);
        ShakenBread both = Check.with("hours 1;eat 1 1;law less;plain 0 1;plain 0 1;extra 0 1;extra 1 1;", "");
        dueRow("one or the other", w -> both.worlds(0, 0, w), 4, 4, 0, 3);
        ShakenBread eight = Check.with("hours 1;eat 9 1;" + "shy 0 8;".repeat(8) + "extra 7 1;", "");
        dueRow("all bits", w -> eight.worlds(0, 0, w), 2, 2, 127, ALL);
    }

    private static void pocket() {
        ShakenBread x = Check.with("hours 24;eat 0 1;shy 0 30;shy 1 0;extra 0 3;extra 1 3;", "", "pocket 0 0 31;",
            "pocket 1 23 99;");
        due("least", x.pocket(0, 0, 0, 0, false), 30);
        due("most", x.pocket(0, 0, 0, 23, true), 33);
        due("least of another", x.pocket(0, 0, 1, 23, false), 0);
        due("most of another", x.pocket(0, 0, 1, 0, true), 3);
        due("by a note", x.pocket(0, 1, 0, 23, false), 31);
        due("by a note", x.pocket(0, 1, 0, 23, true), 31);
        Check.text(x, 1, 1, "pocket 1 23 99;");
        due("no world", x.pocket(0, 1, 0, 0, false), NONE);
        due("no world", x.pocket(0, 1, 0, 0, true), NONE);
        // one takes 7 ounces each hour as long as the others have any
        ShakenBread rich = Check.with("hours 24;eat 0 1;law last;polite 0 30;" + "shy 0 24;".repeat(7) + "extra 0 3;", "");
        due("most of all", rich.pocket(0, 0, 0, 23, true), 33 + 7 * 24);
        due("least of all", rich.pocket(0, 0, 0, 23, false), 30 + 7 * 24);
    }

    private static void search() {
        ShakenBread x = Check.with("hours 24;eat 0 1;shy 0 0;shy 1 0;shy 2 0;extra 1 1;extra 2 1;", "", "pocket 1 0 9;",
            "pocket 1 0 0;");
        dueRow("the first of two people and 24 hours", w -> x.search(0, 0, w), 0, 1, 2, NONE);
        dueRow("no world", w -> x.search(0, 1, w), NONE, NONE, NONE, NONE);
        Check.text(x, 1, 1, "pocket 1 0 0;");
        dueRow("the other one", w -> x.search(0, 1, w), 0, 2, 1, NONE);
        Check.text(x, 1, 1, "pocket 1 0 0;pocket 2 0 1;");
        dueRow("one world", w -> x.search(0, 1, w), 0, 0, 1, NONE);
        // 0 has more behind hour 1 if 1 had an extra ounce to give
        ShakenBread y = Check.with("size 2 2;hours 2;eat 2 1;law last;shy 0 2;shy 1 2;extra 1 1;", "");
        dueRow("who has one left", w -> y.search(0, 0, w), 0, 1, 1);
        // who has 1 keeps it and who has 2 eats them: parts of 0 and of 1; behind hour 0 with 0 to 3 there are three
        ShakenBread z = Check.with("hours 2;eat 2 2;shy 0 0;extra 0 3;", "");
        dueRow("ahead of the meal", w -> z.search(0, 0, w), 0, 0, 1);
        ShakenBread late = Check.with("size 2 2;hours 2;eat 0 1;law more;shy 0 2;plain 1 0;extra 0 3;errand 1 1 0;", "");
        dueRow("each by himself", w -> late.search(0, 0, w), 0, 0, 1);
    }

    // ---- promises 28 to 34 ----

    private static void aid() {
        String[] bread = {"9", "8", "0"};
        int[] want = {0, 1, 9};
        for (int i = 0; i < bread.length; i++) {
            due("aid of " + want[i], Check.with("hours 1;eat 9 1;plain 0 " + bread[i] + ";").aid(0, 0), want[i]);
        }
        due("thirty", Check.with("hours 24;eat 9 5;plain 0 6;").aid(0, 0), 30);
        due("thirty-one", Check.with("hours 24;eat 9 5;plain 0 5;").aid(0, 0), NONE);
        due("0 for anyone if nobody starves", Check.with("hours 1;eat 0 1;" + "shy 0 0;".repeat(8)).aid(0, 7), 0);
        due("ahead of hour 0", Check.with("hours 1;eat 2 1;plain 0 0;plain 0 2;").aid(0, 1), NONE);
        due("ahead of hour 0", Check.with("hours 1;eat 2 1;plain 0 0;plain 0 2;").aid(0, 0), 2);
    }

    private static void hunger() {
        for (int bread = 0; bread <= 10; bread++) {
            due("hunger of " + bread, Check.with("hours 1;eat 9 1;plain 0 " + bread + ";").hunger(0, false),
                Math.min(bread, 9));
        }
        due("no meal", Check.with("hours 5;eat 9 6;plain 0 0;").hunger(0, false), 9);
        for (int hours = 1; hours <= 24; hours++) {
            due("fast of none in " + hours, Check.with("hours " + hours + ";eat 1 1;plain 0 0;").hunger(0, true),
                hours < 24 ? hours + 1 : NONE);
            due("fast of one in " + hours, Check.with("hours " + hours + ";eat 1 9;plain 0 1;").hunger(0, true), hours / 2 + 1);
        }
        due("fast at least", Check.with("hours 24;eat 1 24;plain 0 24;").hunger(0, true), 1);
        due("fast without need", Check.with("hours 24;eat 0 24;plain 0 0;").hunger(0, true), 1);
        due("fast 24", Check.with("hours 24;eat 9 1;plain 0 17;").hunger(0, true), 13);
        due("fast 24", Check.with("hours 23;eat 9 1;plain 0 8;").hunger(0, true), 24);
    }

    private static void swap() {
        ShakenBread last = Check.with(TWO_BY_TWO + "hours 1;eat 1 1;law less;shy 0 3;shy 1 2;plain 0 1;");
        dueRow("the last two", w -> last.swap(0, w), 1, 2, 0, NONE);
        ShakenBread apart = Check.with(TWO_BY_TWO + "hours 1;eat 2 1;law last;plain 3 1;shy 0 4;shy 0 2;");
        dueRow("first and last", w -> apart.swap(0, w), 0, 2, 0, NONE);
        // 7 has to come to 5 in cell 1, and 6 can live alone
        ShakenBread eight = Check.with("hours 1;eat 1 1;law more;gloved 4 1;gloved 5 1;gloved 6 1;gloved 7 1;gloved 8 1;"
            + "plain 1 3;shy 1 1;plain 0 0;");
        dueRow("the last two of eight", w -> eight.swap(0, w), 6, 7, 0, NONE);
        ShakenBread errands = Check.with(TWO_BY_TWO + "hours 2;eat 1 2;law last;shy 3 0;shy 1 1;plain 2 2;errand 1 2 2;");
        // 1 gives his ounce to 2, by whose errand 0 has none to give
        dueRow("by errands", w -> errands.swap(0, w), 0, 1, 1, NONE);
        ShakenBread full = Check.with("hours 1;eat 1 1;plain 0 1;plain 1 1;");
        dueRow("nobody starves anyway", w -> full.swap(0, w), NONE, NONE, NONE);
        ShakenBread one = Check.with("hours 1;eat 1 1;plain 0 0;");
        dueRow("one alone", w -> one.swap(0, w), NONE, NONE, NONE);
    }

    private static void wed() {
        ShakenBread last = Check.with("hours 3;eat 1 2;law less;shy 3 1;plain 0 3;");
        due("the last hour", last.wed(0, false), 2);
        due("the last hour", last.wed(0, true), 0);
        ShakenBread worse = Check.with("hours 2;eat 2 1;law more;plain 3 2;shy 2 4;");
        due("each is worse", worse.wed(0, false), 0);
        due("each is worse", worse.wed(0, true), 2);
        ShakenBread any = Check.with("hours 24;eat 0 1;plain 0 0;");
        due("the first of 24", any.wed(0, false), 0);
        due("the first of 24", any.wed(0, true), 0);
        ShakenBread day = Check.with("hours 24;eat 1 23;law less;plain 0 1;plain 1 3;");
        due("behind the only meal", day.wed(0, false), 23);
        ShakenBread dead = Check.with("hours 1;eat 1 1;" + "plain 0 0;".repeat(8));
        due("all starve", dead.wed(0, true), 8);
        due("all starve", dead.wed(0, false), 0);
    }

    private static void tunnel() {
        ShakenBread last = Check.with("hours 3;eat 2 3;law more;shy 2 4;shy 1 0;");
        due("the last one in the last hour", last.tunnel(0, 2, 30, false), 1);
        due("one saved", last.tunnel(0, 2, 30, true), 1);
        due("one ounce isn't enough", last.tunnel(0, 2, 1, false), 0);
        due("one ounce isn't enough", last.tunnel(0, 2, 1, true), 0);
        due("two are", last.tunnel(0, 0, 2, false), 1);
        ShakenBread harm = Check.with("hours 1;eat 1 1;law less;plain 0 1;plain 0 1;shy 0 1;");
        due("two more starve, whoever gets it", harm.tunnel(0, 0, 1, true), -2);
        due("the least of them", harm.tunnel(0, 0, 1, false), 0);
        ShakenBread eight = Check.with("hours 24;eat 1 24;" + "shy 0 1;".repeat(7) + "shy 0 0;");
        due("the eighth", eight.tunnel(0, 23, 1, false), 7);
        due("the eighth", eight.tunnel(0, 23, 1, true), 1);
        ShakenBread late = Check.with("hours 24;eat 1 23;shy 0 0;");
        due("too late", late.tunnel(0, 23, 30, true), 0);
        due("in time", late.tunnel(0, 22, 30, true), 1);
    }

    private static void richest() {
        for (int p = 0; p < 8; p++) {
            String town = "hours 1;eat 0 1;" + "shy 0 29;".repeat(p) + "shy 0 30;" + "shy 0 30;".repeat(7 - p);
            for (int law = 0; law < 4; law++) {
                due("richest by " + law, Check.with(town).richest(0, law), p);
            }
        }
        String[] even = {"hours 1;eat 2 1;shy 0 1;shy 1 2;", "hours 3;eat 2 1;plain 0 0;shy 2 2;shy 0 2;",
            "hours 1;eat 0 1;plain 0 4;plain 0 0;plain 0 4;law first;", "hours 1;eat 2 1;shy 1 3;plain 1 0;shy 1 1;"};
        int[] best = {0, 1, 0, 3};
        for (int i = 0; i < even.length; i++) {
            due("even " + i, Check.with(even[i]).richest(0, NONE), best[i]);
        }
        // by less nothing goes; by more, first and last 1 has one ounce more behind it, and 0 one less
        due("even by less", Check.with("hours 1;eat 2 1;polite 0 2;gloved 0 0;gloved 1 0;quarrel 0 2;").richest(0, NONE), 2);
        ShakenBread dead = Check.with("hours 1;eat 9 1;plain 0 8;plain 1 9;");
        due("the dead one has bread", dead.richest(0, 0), 0);
        due("one alone", Check.with("plain 0 30;").richest(0, NONE), 0);
    }

    private static void miser() {
        ShakenBread last = Check.with("hours 1;eat 1 1;law more;shy 1 3;plain 1 4;");
        dueRow("the last one", w -> last.miser(0, w), 1, 1);
        ShakenBread three = Check.with("hours 3;eat 1 3;law last;shy 3 4;plain 3 3;");
        dueRow("three more", w -> three.miser(0, w), 0, 3, 1, 2);
        ShakenBread alike = Check.with("hours 1;eat 0 1;law first;plain 0 1;plain 0 0;plain 1 1;plain 1 0;");
        dueRow("the least of several", w -> alike.miser(0, w), 0, 1, 5, 2);
        ShakenBread none = Check.with("hours 24;eat 0 1;" + "shy 0 30;".repeat(8));
        dueRow("not above 0", w -> none.miser(0, w), NONE, 0, 0, 1);
        ShakenBread gloved = Check.with("hours 24;eat 0 1;law first;" + "gloved 0 30;".repeat(8));
        dueRow("all gloved by manner", w -> gloved.miser(0, w), NONE, 0, 0, 1);
        // without gloves 0 would give one away and starve with the other one; by manner he can't take them off
        ShakenBread never = Check.with("hours 2;eat 2 1;law last;gloved 1 2;polite 1 1;");
        dueRow("gloves by manner stay", w -> never.miser(0, w), NONE, 0, 0, 1);
        ShakenBread eight = Check.with("hours 1;eat 0 1;law last;" + "gloved 0 0;".repeat(7) + "plain 0 7;");
        dueRow("the eighth of seven gloved", w -> eight.miser(0, w), 7, 7, 128, 2);
    }

    /** Towns whose gloves are at rest with the 20th round, and with a 21st one. */
    private static void rounds() {
        ShakenBread twenty = Check.with("eat 3 6;polite 1 1;shy 1 2;plain 1 5;polite 2 2;polite 0 7;plain 1 8;shy 0 7;plain 2 1;"
            + "errand 0 2;errand 1 1 0 1 1 2;errand 2 0 2;errand 3 0;errand 4 0 0 1 1 0;errand 6 1 1 1 1 2;errand 7 1 0 2;");
        due("20 rounds", twenty.miser(0, 3), 20);
        ShakenBread more = Check.with("eat 3 5;shy 2 1;plain 0 5;plain 1 4;shy 1 7;polite 0 0;polite 0 0;plain 1 5;shy 2 7;"
            + "errand 0 0 2 2 1;errand 1 0 0 1 2;errand 2 0 2 0;errand 3 0 2 2 0;errand 6 2 2 0 2 1 0 2 1;errand 7 1 1 2 1 0;"
            + "quarrel 2 6;quarrel 6 4;quarrel 7 5;quarrel 5 2;");
        due("more than 20 rounds", more.miser(0, 3), NONE);
        due("gloves behind 20 rounds", more.miser(0, 2), 127);
        String[] towns = {"hours 1;eat 0 1;shy 0 1;", "size 2 2;hours 1;eat 1 1;law more;shy 3 4;plain 3 0;",
            "size 2 2;hours 3;eat 2 1;law more;plain 1 3;shy 1 2;", "size 2 2;hours 2;eat 1 1;law more;shy 0 4;plain 0 3;shy 0 4;"};
        for (int i = 0; i < towns.length; i++) {
            due("rounds", Check.with(towns[i]).miser(0, 3), i + 1);
        }
    }

    /** The 512th call is answered like the first one: two make the town. */
    private static void lastCall() {
        String[] calls = {"run", "order", "worlds", "miser", "end", "again"};
        for (int last = 0; last < calls.length; last++) {
            ShakenBread x = new ShakenBread();
            x.feed(0x73687920, 0x3020333b, 0x0a0a0a0a, 0x0a0a0a0a, 0x20202020);
            due("the first text", x.text(0, NONE), 0);
            due("an image", x.image(2), true);
            for (int call = 4; call < 512; call++) {
                due("call " + call, x.run(0, call % 2 * 4), call % 2);
            }
            int[] got = {last == 0 ? x.run(0, 4) : 1, last == 1 ? x.order(0, 0) : NONE, last == 2 ? x.worlds(0, 0, 0) : NONE,
                last == 3 ? x.miser(0, 3) : 1, last == 4 ? x.end(0) : 0, last == 5 && !x.again(2) ? 0 : 1};
            int[] want = {1, NONE, NONE, 1, 0, 1};
            due("call 512: " + calls[last], got[last], want[last]);
        }
    }

    private static void due(String call, boolean got, boolean want) {
        c.due(call, got, want);
    }
}
