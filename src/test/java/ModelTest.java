import java.util.ArrayList;
import java.util.Arrays;
import java.util.HashMap;
import java.util.List;
import java.util.Map;
import java.util.Random;
import java.util.TreeSet;
import java.util.function.Function;
import java.util.function.ToIntFunction;
import java.util.regex.Matcher;
import java.util.regex.Pattern;

/** Holds random towns and books against a second, plain program made from the document. */
public final class ModelTest {
    private static final int NONE = -1;
    private static final Check c = new Check();

    /** A town as told, and what is said of an unlike run. */
    private static final class Tale implements Cloneable {
        int w = 3;
        int h = 3;
        int law = 0;
        int hours = 12;
        int need = 1;
        int every = 6;
        List<String> manner = new ArrayList<>();
        List<Integer> cell = new ArrayList<>();
        List<Integer> bread = new ArrayList<>();
        Map<Integer, List<Integer>> errand = new HashMap<>();
        Map<Integer, Integer> extra = new HashMap<>();
        List<List<Integer>> quarrels = new ArrayList<>();
        TreeSet<Integer> gloves = new TreeSet<>();
        TreeSet<Integer> forgotten = new TreeSet<>();
        Map<List<Integer>, Integer> orders = new HashMap<>();
        int stays = NONE;
        int weddingHour = NONE;
        int loafTo = NONE;
        int loafHour = NONE;
        int loafSize = 0;

        int people() {
            return manner.size();
        }

        Tale unlike() {
            try {
                Tale t = (Tale) clone();
                t.bread = new ArrayList<>(bread);
                t.cell = new ArrayList<>(cell);
                t.errand = new HashMap<>(errand);
                t.gloves = new TreeSet<>(gloves);
                t.forgotten = new TreeSet<>(forgotten);
                t.orders = new HashMap<>(orders);
                return t;
            } catch (CloneNotSupportedException e) {
                throw new IllegalStateException(e);
            }
        }

        int cellOf(int p, int hour) {
            List<Integer> cells = errand.get(p);
            return cells == null ? cell.get(p) : cells.get(Math.min(hour, cells.size() - 1));
        }

        int whereIs(int p, int hour) {
            if (hour == weddingHour) {
                return 0;
            }
            Integer ordered = orders.get(List.of(hour, p));
            return ordered == null ? cellOf(p, hour) : ordered;
        }

        boolean gloved(int p) {
            return gloves.contains(p) || manner.get(p).equals("gloved");
        }

        int rank(int p) {
            switch (manner.get(p)) {
                case "polite": return 2;
                case "shy": return 0;
                default: return 1;
            }
        }

        boolean quarrel(int a, int b) {
            for (int q = 0; q < quarrels.size(); q++) {
                if (!forgotten.contains(q) && quarrels.get(q).containsAll(List.of(a, b))) {
                    return true;
                }
            }
            return false;
        }
    }

    private record Shake(int hour, int a, int b, int from, int to) {
    }

    /** All that has been in a run. */
    private static final class Past {
        final Tale t;
        final int n;
        final int[][] bread;
        final boolean[][] lives;
        final boolean[][] ate;
        final List<Shake> shakes = new ArrayList<>();

        Past(Tale tale) {
            t = tale;
            n = t.people();
            bread = new int[t.hours][];
            lives = new boolean[t.hours][];
            ate = new boolean[t.hours][n];
            int[] has = new int[n];
            boolean[] alive = new boolean[n];
            for (int p = 0; p < n; p++) {
                has[p] = t.bread.get(p);
                alive[p] = true;
            }
            for (int hour = 0; hour < t.hours; hour++) {
                if (hour == t.loafHour) {
                    has[t.loafTo] += t.loafSize;
                }
                for (int a = 0; a < n; a++) {
                    for (int b = a + 1; b < n; b++) {
                        meet(hour, a, b, has, alive);
                    }
                }
                for (int p = 0; p < n; p++) {
                    if ((hour + 1) % t.every == 0 && alive[p]) {
                        ate[hour][p] = has[p] >= t.need;
                        alive[p] = ate[hour][p];
                        has[p] -= alive[p] ? t.need : 0;
                    }
                }
                bread[hour] = has.clone();
                lives[hour] = alive.clone();
            }
        }

        private void meet(int hour, int a, int b, int[] has, boolean[] alive) {
            if (!alive[a] || !alive[b] || t.whereIs(a, hour) != t.whereIs(b, hour)) {
                return;
            }
            boolean bothShy = t.manner.get(a).equals("shy") && t.manner.get(b).equals("shy");
            if (t.quarrel(a, b) || bothShy || t.stays == a || t.stays == b) {
                return;
            }
            int greeter = t.rank(b) > t.rank(a) ? b : a;
            int greeted = a + b - greeter;
            int richer = has[a] > has[b] ? a : has[b] > has[a] ? b : NONE;
            int from;
            switch (t.law) {
                case 0: from = richer; break;
                case 1: from = greeter; break;
                case 2: from = richer == NONE ? NONE : a + b - richer; break;
                default: from = greeted; break;
            }
            if (from != NONE && (has[from] == 0 || t.gloved(from))) {
                from = NONE;
            }
            int to = from == NONE ? NONE : a + b - from;
            if (from != NONE) {
                has[from]--;
                has[to]++;
            }
            shakes.add(new Shake(hour, a, b, from, to));
        }

        int starved() {
            int dead = 0;
            for (int p = 0; p < n; p++) {
                dead += lives[t.hours - 1][p] ? 0 : 1;
            }
            return dead;
        }

        int last(int p) {
            return bread[t.hours - 1][p];
        }

        int richest() {
            int best = NONE;
            for (int p = 0; p < n; p++) {
                best = best == NONE || last(p) > last(best) ? p : best;
            }
            return best;
        }

        int dead(int hour) {
            int bits = 0;
            for (int p = 0; p < n; p++) {
                bits += lives[hour][p] ? 0 : 1 << p;
            }
            return bits;
        }

        TreeSet<Integer> couples() {
            TreeSet<Integer> all = new TreeSet<>();
            for (Shake s : shakes) {
                all.add(s.a() * 8 + s.b());
            }
            return all;
        }

        int parts() {
            int[] part = new int[n];
            for (int p = 0; p < n; p++) {
                part[p] = p;
            }
            for (int i = 0; i < n; i++) {
                for (int ab : couples()) {
                    int least = Math.min(part[ab / 8], part[ab % 8]);
                    part[ab / 8] = least;
                    part[ab % 8] = least;
                }
            }
            return (int) Arrays.stream(part).distinct().count();
        }

        int ill(int from, int hour, boolean gloves) {
            TreeSet<Integer> ill = new TreeSet<>(List.of(from));
            for (Shake s : shakes) {
                if (s.hour() <= hour && !(gloves && (t.gloved(s.a()) || t.gloved(s.b())))) {
                    if (ill.contains(s.a()) || ill.contains(s.b())) {
                        ill.add(s.a());
                        ill.add(s.b());
                    }
                }
            }
            return bits(ill);
        }

        int caught(int from, int to, boolean gloves) {
            for (int hour = 0; hour < t.hours; hour++) {
                if ((ill(from, hour, gloves) & 1 << to) != 0) {
                    return hour;
                }
            }
            return NONE;
        }

        int drawn(int from, int seed, int k) {
            TreeSet<Integer> ill = new TreeSet<>(List.of(from));
            int x = seed;
            for (Shake s : shakes) {
                if (!t.gloved(s.a()) && !t.gloved(s.b()) && ill.contains(s.a()) != ill.contains(s.b())) {
                    x = (int) (x * 1103515245L + 12345L);
                    long high = (x & 0xffffffffL) / 65536;
                    if (high % 10 < k) {
                        ill.add(s.a());
                        ill.add(s.b());
                    }
                }
            }
            return bits(ill);
        }

        /** With whom the painted ounce may be behind an hour, and the bite by then. */
        int[] painted(int of, int until) {
            TreeSet<Integer> may = new TreeSet<>(List.of(of));
            int bite = NONE;
            int[] has = new int[n];
            for (int p = 0; p < n; p++) {
                has[p] = t.bread.get(p);
            }
            for (int hour = 0; hour <= until; hour++) {
                for (Shake s : shakes) {
                    if (s.hour() == hour && s.from() != NONE) {
                        has[s.from()]--;
                        has[s.to()]++;
                        if (may.contains(s.from())) {
                            may.add(s.to());
                        }
                        may.removeIf(p -> has[p] == 0);
                    }
                }
                for (int p = 0; p < n; p++) {
                    if (ate[hour][p]) {
                        bite = bite == NONE && t.need > 0 && may.contains(p) ? hour : bite;
                        has[p] -= t.need;
                    }
                }
                may.removeIf(p -> has[p] == 0);
            }
            return new int[] {bits(may), bite};
        }

        private static int bits(TreeSet<Integer> set) {
            return set.stream().mapToInt(p -> 1 << p).sum();
        }
    }

    // ---- the second reader ----

    private static final class Parsed {
        int fault = 0;
        int place = NONE;
        Tale tale = new Tale();
        List<int[]> notes = new ArrayList<>();
    }

    private record Token(char kind, String text, int place) {
    }

    private static List<Token> tokens(String text) {
        Pattern p = Pattern.compile("([a-z]+)|([0-9]+)|(;)|([ \n]+)|(.)", Pattern.DOTALL);
        List<Token> all = new ArrayList<>();
        Matcher m = p.matcher(text);
        while (m.find()) {
            if (m.group(1) != null) {
                all.add(new Token('w', m.group(), m.start()));
            } else if (m.group(2) != null) {
                all.add(new Token(m.group().length() < 3 ? 'n' : '?', m.group(), m.start()));
            } else if (m.group(3) != null) {
                all.add(new Token(';', ";", m.start()));
            } else if (m.group(4) == null) {
                all.add(new Token('?', m.group(), m.start()));
            }
        }
        all.add(new Token('e', "", text.length()));
        return all;
    }

    /** What may stand in a town's or a book's line, n for a number, + for one and any more. */
    private static final Map<String, String> TOWN_LINES = new HashMap<>(Map.of("size", "nn", "law", "l", "hours", "n",
        "eat", "nn", "plain", "nn", "polite", "nn", "shy", "nn", "gloved", "nn", "errand", "n+", "extra", "nn"));
    private static final Map<String, String> BOOK_LINES = Map.of("pocket", "nnn");
    private static final List<String> LAWS = List.of("more", "first", "less", "last");

    static {
        TOWN_LINES.put("quarrel", "nn");
    }

    private static Parsed parse(int sort, String text) {
        Parsed out = new Parsed();
        List<Token> tokens = tokens(text);
        List<List<Token>> lines = new ArrayList<>();
        Token bad = firstBad(sort == 0 ? TOWN_LINES : BOOK_LINES, tokens, lines);
        if (bad != null) {
            out.fault = 1;
            out.place = bad.place();
            return out;
        }
        List<int[]> faults = new ArrayList<>();
        for (List<Token> line : lines) {
            readLine(out, line, faults);
        }
        faults.sort((a, b) -> a[0] != b[0] ? a[0] - b[0] : a[1] - b[1]);
        if (!faults.isEmpty()) {
            out.place = faults.get(0)[0];
            out.fault = faults.get(0)[1];
        } else if (sort == 0 && tellsOfMissing(out.tale, lines)) {
            out.fault = 4;
            out.place = text.length();
        }
        return out;
    }

    private static Token firstBad(Map<String, String> forms, List<Token> tokens, List<List<Token>> lines) {
        int i = 0;
        while (tokens.get(i).kind() != 'e') {
            List<Token> line = new ArrayList<>();
            Token head = tokens.get(i++);
            String form = head.kind() == 'w' ? forms.get(head.text()) : null;
            if (form == null) {
                return head;
            }
            line.add(head);
            for (int f = 0; f < form.length(); f++) {
                Token t = tokens.get(i++);
                boolean fits = form.charAt(f) == 'l' ? t.kind() == 'w' && LAWS.contains(t.text()) : t.kind() == 'n';
                if (!fits) {
                    return t;
                }
                line.add(t);
                while (form.charAt(f) == '+' && tokens.get(i).kind() == 'n') {
                    line.add(tokens.get(i++));
                }
            }
            Token stop = tokens.get(i++);
            if (stop.kind() != ';') {
                return stop;
            }
            lines.add(line);
        }
        return null;
    }

    private static void readLine(Parsed out, List<Token> line, List<int[]> faults) {
        Tale t = out.tale;
        String head = line.get(0).text();
        int[] n = new int[line.size()];
        for (int i = 1; i < n.length; i++) {
            n[i] = line.get(i).kind() == 'n' ? Integer.parseInt(line.get(i).text()) : 0;
        }
        Function<Integer, ToIntFunction<int[]>> range = i -> r -> {
            if (n[i] < r[0] || n[i] > r[1]) {
                faults.add(new int[] {line.get(i).place(), 2});
            }
            return n[i];
        };
        int here = line.get(0).place();
        switch (head) {
            case "size":
                t.w = range.apply(1).applyAsInt(new int[] {2, 6});
                t.h = range.apply(2).applyAsInt(new int[] {2, 6});
                break;
            case "law":
                t.law = LAWS.indexOf(line.get(1).text());
                break;
            case "hours":
                t.hours = range.apply(1).applyAsInt(new int[] {1, 24});
                break;
            case "eat":
                t.need = range.apply(1).applyAsInt(new int[] {0, 9});
                t.every = range.apply(2).applyAsInt(new int[] {1, 24});
                break;
            case "errand":
                range.apply(1).applyAsInt(new int[] {0, 7});
                List<Integer> cells = new ArrayList<>();
                for (int i = 2; i < n.length; i++) {
                    cells.add(range.apply(i).applyAsInt(new int[] {0, 35}));
                    if (cells.size() == 13) {
                        faults.add(new int[] {line.get(i).place(), 3});
                    }
                }
                t.errand.put(n[1], cells);
                break;
            case "extra":
                range.apply(1).applyAsInt(new int[] {0, 7});
                t.extra.put(n[1], range.apply(2).applyAsInt(new int[] {0, 3}));
                break;
            case "quarrel":
                t.quarrels.add(List.of(n[1], n[2]));
                range.apply(1).applyAsInt(new int[] {0, 7});
                range.apply(2).applyAsInt(new int[] {0, 7});
                if (n[1] == n[2]) {
                    faults.add(new int[] {line.get(2).place(), 2});
                }
                if (t.quarrels.size() == 7) {
                    faults.add(new int[] {here, 3});
                }
                break;
            case "pocket":
                out.notes.add(new int[] {n[1], n[2], n[3]});
                range.apply(1).applyAsInt(new int[] {0, 7});
                range.apply(2).applyAsInt(new int[] {0, 23});
                if (out.notes.size() == 9) {
                    faults.add(new int[] {here, 3});
                }
                break;
            default:
                t.manner.add(head);
                t.cell.add(range.apply(1).applyAsInt(new int[] {0, 35}));
                t.bread.add(range.apply(2).applyAsInt(new int[] {0, 30}));
                if (t.people() == 9) {
                    faults.add(new int[] {here, 3});
                }
                break;
        }
    }

    private static boolean tellsOfMissing(Tale t, List<List<Token>> lines) {
        for (List<Token> line : lines) {
            String head = line.get(0).text();
            for (int i = 1; i < line.size(); i++) {
                boolean person = head.equals("quarrel") || i == 1 && (head.equals("errand") || head.equals("extra"));
                boolean cell = i > 1 && head.equals("errand")
                    || i == 1 && List.of("plain", "polite", "shy", "gloved").contains(head);
                int n = person || cell ? Integer.parseInt(line.get(i).text()) : 0;
                if (person && n >= t.people() || cell && n >= t.w * t.h) {
                    return true;
                }
            }
        }
        return false;
    }

    // ---- random texts ----

    private static String blank(Random r) {
        return r.nextInt(6) > 0 ? " " : r.nextBoolean() ? "\n" : "  \n ";
    }

    private static String townText(Random r, boolean big) {
        StringBuilder s = new StringBuilder();
        int w = 2 + r.nextInt(big ? 5 : 2);
        int h = 2 + r.nextInt(big ? 5 : 2);
        int cells = r.nextInt(3) == 0 ? 2 : w * h;
        int people = r.nextInt(6) == 0 ? r.nextInt(9) : 2 + r.nextInt(big ? 7 : 4);
        List<String> lines = new ArrayList<>();
        lines.add("size " + w + " " + h);
        if (r.nextInt(5) > 0) {
            lines.add("law " + LAWS.get(r.nextInt(4)));
        }
        if (r.nextInt(8) > 0) {
            lines.add("hours " + (1 + r.nextInt(r.nextInt(3) == 0 ? 24 : 7)));
        }
        if (r.nextInt(8) > 0) {
            lines.add("eat " + (r.nextInt(4) == 0 ? r.nextInt(10) : 1 + r.nextInt(2)) + " "
                + (1 + r.nextInt(r.nextInt(3) == 0 ? 24 : 4)));
        }
        for (int p = 0; p < people; p++) {
            String manner = List.of("plain", "plain", "polite", "shy", "gloved").get(r.nextInt(5));
            lines.add(manner + " " + r.nextInt(cells) + " " + r.nextInt(r.nextInt(4) == 0 ? 31 : 6));
        }
        for (int i = r.nextInt(6); i > 0 && people > 0; i--) {
            StringBuilder e = new StringBuilder("errand " + r.nextInt(people));
            for (int k = 1 + r.nextInt(r.nextInt(3) == 0 ? 12 : 4); k > 0; k--) {
                e.append(blank(r)).append(r.nextInt(cells));
            }
            lines.add(e.toString());
        }
        for (int i = r.nextInt(5); i > 0 && people > 0; i--) {
            lines.add("extra " + r.nextInt(people) + " " + r.nextInt(4));
        }
        for (int i = r.nextInt(4) > 0 ? 0 : r.nextInt(7); i > 0 && people > 1; i--) {
            int a = r.nextInt(people);
            lines.add("quarrel " + a + " " + (a + 1 + r.nextInt(people - 1)) % people);
        }
        for (String line : lines) {
            if (s.length() + line.length() < 590) {
                s.append(line.replace(" ", blank(r))).append(';').append(r.nextBoolean() ? "" : "\n");
            }
        }
        return s.toString();
    }

    /** A book whose notes are, mostly, of what the run has. */
    private static String bookText(Random r, Past past) {
        StringBuilder s = new StringBuilder();
        for (int i = r.nextInt(4); i > 0; i--) {
            boolean wild = past.n == 0 || r.nextInt(12) == 0;
            int who = r.nextInt(wild ? 8 : past.n);
            int hour = r.nextInt(wild ? 24 : past.t.hours);
            boolean there = who < past.n && hour < past.t.hours;
            int bread = there && r.nextInt(8) > 0 ? past.bread[hour][who] + r.nextInt(2) : r.nextInt(9);
            s.append("pocket ").append(who).append(' ').append(hour).append(' ').append(bread % 100).append("; ");
        }
        return s.toString();
    }

    private static String spoilt(Random r, String text) {
        StringBuilder s = new StringBuilder(text);
        String[] bits = {"9", "36", "30", "31", ";", " ", "", "\n", "x", "0", "000", "plain 1 1;", "law less;", "A", "\t",
            "\u00e4", "quarrel 0 1;", "quarrel 1 1;", "errand 0 0 1 2 3 0 1 2 3 0 1 2 3 0;", "pocket 0 0 0;", "size 2 2;",
            "shy 35 0;", "hours 24;", "hours 25;", "extra 7 0;", "pocket 7 23 99;", "pocket 8 1 1;"};
        for (int i = 1 + r.nextInt(3); i > 0; i--) {
            int at = r.nextInt(s.length() + 1);
            if (r.nextInt(3) > 0) {
                int stop = s.indexOf(";", at);
                at = stop < 0 ? s.length() : stop + 1;
            }
            int until = Math.min(s.length(), at + (r.nextInt(3) == 0 ? r.nextInt(3) : 0));
            s.replace(at, until, bits[r.nextInt(bits.length)]);
        }
        return s.length() > 600 ? s.substring(0, 600) : s.toString();
    }

    // ---- the checks ----

    private static int starved(Tale t) {
        return new Past(t).starved();
    }

    private static int fewestBits(int n, Function<Integer, Boolean> good) {
        for (int count = 0; count <= n; count++) {
            for (int bits = 0; bits < 1 << n; bits++) {
                if (Integer.bitCount(bits) == count && good.apply(bits)) {
                    return bits;
                }
            }
        }
        return NONE;
    }

    private static TreeSet<Integer> setOf(int bits) {
        TreeSet<Integer> set = new TreeSet<>();
        for (int i = 0; i < 8; i++) {
            if ((bits >> i & 1) != 0) {
                set.add(i);
            }
        }
        return set;
    }

    private static void told(ShakenBread x, Tale t) {
        int[] town = {t.w, t.h, t.law, t.hours, t.need, t.every, t.people(), t.quarrels.size()};
        for (int what = 0; what < 8; what++) {
            c.due("town " + what, x.town(0, what), town[what]);
        }
        for (int q = 0; q < 7; q++) {
            boolean there = q < t.quarrels.size();
            c.due("quarrel " + q, x.town(0, 10 + q), there ? t.quarrels.get(q).get(0) : NONE);
            c.due("quarrel " + q, x.town(0, 20 + q), there ? t.quarrels.get(q).get(1) : NONE);
        }
        for (int p = 0; p < t.people(); p++) {
            c.due("manner", x.person(0, p, 0), List.of("plain", "polite", "shy", "gloved").indexOf(t.manner.get(p)));
            c.due("cell", x.person(0, p, 1), t.cell.get(p));
            c.due("bread", x.person(0, p, 2), t.bread.get(p));
            c.due("extra", x.person(0, p, 3), t.extra.getOrDefault(p, 0));
            List<Integer> cells = t.errand.getOrDefault(p, List.of());
            c.due("steps", x.person(0, p, 4), cells.size());
            for (int i = 0; i < 13; i++) {
                c.due("step", x.person(0, p, 10 + i), i < cells.size() ? cells.get(i) : NONE);
            }
        }
    }

    private static void ran(ShakenBread x, Past r) {
        Tale t = r.t;
        int eaten = 0;
        int first = NONE;
        for (int h = 0; h < t.hours; h++) {
            int shakes = 0;
            int ounces = 0;
            int all = 0;
            int meal = 0;
            for (Shake s : r.shakes) {
                shakes += s.hour() == h ? 1 : 0;
                ounces += s.hour() == h && s.from() != NONE ? 1 : 0;
            }
            for (int p = 0; p < r.n; p++) {
                int met = 0;
                int came = 0;
                for (Shake s : r.shakes) {
                    if (s.hour() == h) {
                        met |= s.a() == p ? 1 << s.b() : s.b() == p ? 1 << s.a() : 0;
                        came += s.to() == p ? 1 : s.from() == p ? -1 : 0;
                    }
                }
                c.due("at 0", x.at(0, h, p, 0), t.cellOf(p, h));
                c.due("at 1", x.at(0, h, p, 1), r.bread[h][p]);
                c.due("at 2", x.at(0, h, p, 2), r.lives[h][p] ? 1 : 0);
                c.due("at 3", x.at(0, h, p, 3), met);
                c.due("at 4", x.at(0, h, p, 4), came);
                all += r.bread[h][p];
                meal += r.ate[h][p] ? t.need : 0;
            }
            eaten += meal;
            first = first == NONE && r.dead(h) != 0 ? h : first;
            int[] want = {shakes, ounces, meal, (1 << r.n) - 1 - r.dead(h), all};
            for (int what = 0; what < 5; what++) {
                c.due("hour " + what, x.hour(0, h, what), want[what]);
            }
        }
        int left = 0;
        for (int p = 0; p < r.n; p++) {
            left += r.last(p);
        }
        int[] run = {r.starved(), first, r.shakes.size(), eaten, left, r.richest(), r.couples().size(), r.parts()};
        for (int what = 0; what < 8; what++) {
            c.due("run " + what, x.run(0, what), run[what]);
        }
    }

    private static void fates(ShakenBread x, Past r) {
        for (int p = 0; p < r.n; p++) {
            int one = p;
            int dies = NONE;
            int eaten = 0;
            int most = NONE;
            int mostHour = NONE;
            for (int h = 0; h < r.t.hours; h++) {
                dies = dies == NONE && !r.lives[h][p] ? h : dies;
                eaten += r.ate[h][p] ? r.t.need : 0;
                if (r.bread[h][p] > most) {
                    most = r.bread[h][p];
                    mostHour = h;
                }
            }
            int shakes = (int) r.shakes.stream().filter(s -> s.a() == one || s.b() == one).count();
            int[] want = {dies, shakes, eaten, most, mostHour};
            for (int what = 0; what < 5; what++) {
                c.due("fate " + what, x.fate(0, p, what), want[what]);
            }
        }
    }

    private static void hands(ShakenBread x, Past r, Random random) {
        for (int p = 0; p < r.n; p++) {
            int h = random.nextInt(r.t.hours);
            c.due("fever", x.fever(0, p, h, NONE), r.ill(p, h, true));
            for (int q = 0; q < r.n; q++) {
                if (q != p) {
                    c.due("caught", x.fever(0, p, h, q), r.caught(p, q, true));
                    c.due("news", x.news(0, p, q), r.caught(p, q, false));
                }
            }
            int seed = random.nextInt();
            int k = random.nextInt(11);
            c.due("drawn", x.drawn(0, p, seed, k), r.drawn(p, seed, k));
            boolean has = r.t.bread.get(p) > 0;
            int[] painted = r.painted(p, h);
            c.due("painted 0", x.painted(0, p, h, 0), has ? painted[0] : -2);
            c.due("painted 1", x.painted(0, p, h, 1), has ? painted[1] : -2);
            Tale stay = r.t.unlike();
            stay.stays = p;
            Past stayed = new Past(stay);
            c.due("stays", x.stays(0, p, 0), stayed.starved());
            for (int q = 0; q < r.n; q++) {
                int ill = Integer.bitCount(stayed.ill(q, r.t.hours, true));
                c.due("stays ill", x.stays(0, p, 10 + q), ill);
            }
        }
    }

    private static void gloves(ShakenBread x, Past r) {
        c.due("gloves", x.gloves(0), fewestBits(r.n, bits -> {
            Tale u = r.t.unlike();
            u.gloves = setOf(bits);
            return starved(u) == 0;
        }));
        c.due("peace", x.peace(0), fewestBits(r.t.quarrels.size(), bits -> {
            Tale u = r.t.unlike();
            u.forgotten = setOf(bits);
            return new Past(u).parts() <= 1;
        }));
        int miser = NONE;
        int more = 0;
        for (int p = 0; p < r.n; p++) {
            Tale u = r.t.unlike();
            u.gloves.add(p);
            int gain = new Past(u).last(p) - r.last(p);
            if (gain > more) {
                more = gain;
                miser = p;
            }
        }
        c.due("miser", x.miser(0, 0), miser);
        c.due("miser 1", x.miser(0, 1), more);
        Tale u = r.t.unlike();
        int rounds = NONE;
        for (int round = 1; round <= 20 && rounds == NONE; round++) {
            boolean quiet = true;
            for (int p = 0; p < r.n; p++) {
                if (!r.t.manner.get(p).equals("gloved")) {
                    Tale v = u.unlike();
                    if (!v.gloves.remove(p)) {
                        v.gloves.add(p);
                    }
                    if (new Past(v).last(p) > new Past(u).last(p)) {
                        u = v;
                        quiet = false;
                    }
                }
            }
            rounds = quiet ? round : NONE;
        }
        c.due("rest", x.miser(0, 2), u.gloves.stream().mapToInt(p -> 1 << p).sum());
        c.due("rounds", x.miser(0, 3), rounds);
    }

    private static void order(ShakenBread x, Past r) {
        int[] best = {NONE, NONE, NONE, r.starved()};
        for (int h = 0; h < r.t.hours; h++) {
            for (int p = 0; p < r.n; p++) {
                for (int cell = 0; cell < r.t.w * r.t.h; cell++) {
                    Tale u = r.t.unlike();
                    u.orders.put(List.of(h, p), cell);
                    int starved = starved(u);
                    if (starved < best[3]) {
                        best = new int[] {h, p, cell, starved};
                    }
                }
            }
        }
        for (int what = 0; what < 4; what++) {
            c.due("order " + what, x.order(0, what), best[0] == NONE ? NONE : best[what]);
        }
    }

    private static int bestWalk(Tale u, int p, int hour, int m, int cell, int[] ways, int i, int[] best) {
        if (i == m) {
            int bread = new Past(u).last(p);
            if (bread > best[0]) {
                best[0] = bread;
                System.arraycopy(ways, 0, best, 1, m);
            }
            return best[0];
        }
        int[] dx = {0, 1, 0, -1, 0};
        int[] dy = {-1, 0, 1, 0, 0};
        for (int way = 0; way < 5; way++) {
            int column = cell % u.w + dx[way];
            int row = cell / u.w + dy[way];
            if (column >= 0 && column < u.w && row >= 0 && row < u.h) {
                u.orders.put(List.of(hour + i, p), row * u.w + column);
                ways[i] = way;
                bestWalk(u, p, hour, m, row * u.w + column, ways, i + 1, best);
            }
        }
        return best[0];
    }

    private static void walk(ShakenBread x, Past r, Random random) {
        if (r.n == 0) {
            return;
        }
        int p = random.nextInt(r.n);
        int hour = random.nextInt(r.t.hours);
        int m = 1 + random.nextInt(4);
        if (hour + m > r.t.hours) {
            c.due("walk too long", x.walk(0, p, hour, m, 0), NONE);
            return;
        }
        int[] best = new int[5];
        best[0] = NONE;
        int from = hour == 0 ? r.t.cell.get(p) : r.t.cellOf(p, hour - 1);
        bestWalk(r.t.unlike(), p, hour, m, from, new int[4], 0, best);
        c.due("walk", x.walk(0, p, hour, m, 0), best[0]);
        for (int i = 0; i < m; i++) {
            c.due("walk's way " + i, x.walk(0, p, hour, m, 10 + i), best[1 + i]);
        }
    }

    private static void laws(ShakenBread x, Past r) {
        int best = NONE;
        int fewest = 99;
        int even = NONE;
        int span = 9999;
        for (int law = 0; law < 4; law++) {
            Tale u = r.t.unlike();
            u.law = law;
            Past past = new Past(u);
            if (past.starved() < fewest) {
                fewest = past.starved();
                best = law;
            }
            int[] sorted = new int[past.n];
            for (int p = 0; p < past.n; p++) {
                sorted[p] = past.last(p);
            }
            Arrays.sort(sorted);
            if (past.n > 0 && sorted[past.n - 1] - sorted[0] < span) {
                span = sorted[past.n - 1] - sorted[0];
                even = law;
            }
            c.due("richest", x.richest(0, law), past.richest());
        }
        c.due("even", x.richest(0, NONE), even);
        c.due("feeds", x.feeds(0, false), best);
        c.due("feeds starved", x.feeds(0, true), fewest);
        int hunger = NONE;
        for (int need = 0; need <= 9; need++) {
            Tale u = r.t.unlike();
            u.need = need;
            hunger = starved(u) == 0 ? need : hunger;
        }
        c.due("hunger", x.hunger(0, false), hunger);
        int fast = NONE;
        for (int every = 24; every >= 1; every--) {
            Tale u = r.t.unlike();
            u.every = every;
            fast = starved(u) == 0 ? every : fast;
        }
        c.due("fast", x.hunger(0, true), fast);
    }

    private static Past withLoaf(Tale t, int p, int hour, int n) {
        Tale u = t.unlike();
        u.loafTo = p;
        u.loafHour = hour;
        u.loafSize = n;
        return new Past(u);
    }

    private static void loaves(ShakenBread x, Past r, Random random) {
        int hour = random.nextInt(r.t.hours);
        int n = 1 + random.nextInt(random.nextBoolean() ? 30 : 4);
        int best = NONE;
        int bestSaved = -1000;
        for (int p = 0; p < r.n; p++) {
            Past past = withLoaf(r.t, p, hour, n);
            int saved = r.starved() - past.starved();
            if (saved > bestSaved) {
                bestSaved = saved;
                best = p;
            }
            c.due("loaf", x.loaf(0, p, hour, n, 0), saved);
            for (int q = 0; q < r.n; q++) {
                int felt = NONE;
                for (int h = r.t.hours - 1; h >= 0; h--) {
                    boolean same = past.bread[h][q] == r.bread[h][q] && past.lives[h][q] == r.lives[h][q];
                    felt = same ? felt : h;
                }
                c.due("felt", x.loaf(0, p, hour, n, 10 + q), felt);
            }
            int aid = NONE;
            for (int ounces = 30; ounces >= 1; ounces--) {
                aid = withLoaf(r.t, p, 0, ounces).starved() == 0 ? ounces : aid;
            }
            c.due("aid", x.aid(0, p), r.starved() == 0 ? 0 : aid);
        }
        c.due("tunnel", x.tunnel(0, hour, n, false), best);
        c.due("tunnel saved", x.tunnel(0, hour, n, true), bestSaved);
    }

    private static void changes(ShakenBread x, Past r) {
        int[] best = {NONE, NONE, r.starved()};
        for (int a = 0; a < r.n; a++) {
            for (int b = a + 1; b < r.n; b++) {
                Tale u = r.t.unlike();
                u.cell.set(a, r.t.cell.get(b));
                u.cell.set(b, r.t.cell.get(a));
                u.errand.remove(a);
                u.errand.remove(b);
                if (r.t.errand.containsKey(b)) {
                    u.errand.put(a, r.t.errand.get(b));
                }
                if (r.t.errand.containsKey(a)) {
                    u.errand.put(b, r.t.errand.get(a));
                }
                if (starved(u) < best[2]) {
                    best = new int[] {a, b, starved(u)};
                }
            }
        }
        for (int what = 0; what < 3; what++) {
            c.due("swap " + what, x.swap(0, what), best[0] == NONE ? NONE : best[what]);
        }
        int wed = NONE;
        int fewest = 99;
        for (int h = 0; h < r.t.hours; h++) {
            Tale u = r.t.unlike();
            u.weddingHour = h;
            Past past = new Past(u);
            int hour = h;
            int shakes = (int) past.shakes.stream().filter(s -> s.hour() == hour).count();
            int rich = NONE;
            for (int p = 0; p < r.n; p++) {
                if (past.lives[h][p] && (rich == NONE || past.bread[h][p] > past.bread[h][rich])) {
                    rich = p;
                }
            }
            int cell = h % (r.t.w * r.t.h);
            c.due("wedding 0", x.wedding(0, h, cell, 0), shakes);
            c.due("wedding 1", x.wedding(0, h, cell, 1), rich);
            c.due("wedding 2", x.wedding(0, h, cell, 2), past.starved());
            if (past.starved() < fewest) {
                fewest = past.starved();
                wed = h;
            }
        }
        c.due("wed", x.wed(0, false), wed);
        c.due("wed starved", x.wed(0, true), fewest);
    }

    private static void addRuns(Tale t, int p, int[] add, List<Past> out) {
        if (p == t.people()) {
            Tale u = t.unlike();
            for (int i = 0; i < add.length; i++) {
                u.bread.set(i, t.bread.get(i) + add[i]);
            }
            out.add(new Past(u));
            return;
        }
        for (int more = 0; more <= t.extra.getOrDefault(p, 0); more++) {
            add[p] = more;
            addRuns(t, p + 1, add, out);
        }
    }

    private static void worlds(ShakenBread x, Past r, List<int[]> notes, Random random) {
        List<Past> runs = new ArrayList<>();
        int many = 1;
        for (int p = 0; p < r.n; p++) {
            many *= 1 + r.t.extra.getOrDefault(p, 0);
        }
        if (many > 1024) {
            for (int what = 0; what < 4; what++) {
                c.due("too many", x.worlds(0, 0, what), NONE);
                c.due("too many", x.search(0, 0, what), NONE);
            }
            return;
        }
        addRuns(r.t, 0, new int[r.n], runs);
        List<Past> worlds = new ArrayList<>();
        for (Past past : runs) {
            boolean so = true;
            for (int[] n : notes) {
                so &= n[0] < past.n && n[1] < past.t.hours && past.bread[n[1]][n[0]] == n[2];
            }
            if (so) {
                worlds.add(past);
            }
        }
        int doomed = (1 << r.n) - 1;
        int danger = 0;
        for (Past past : worlds) {
            doomed &= past.dead(past.t.hours - 1);
            danger |= past.dead(past.t.hours - 1);
        }
        boolean none = worlds.isEmpty();
        c.due("worlds", x.worlds(0, 0, 0), worlds.size());
        c.due("runs", x.worlds(0, 0, 1), runs.size());
        c.due("doomed", x.worlds(0, 0, 2), none ? NONE : doomed);
        c.due("danger", x.worlds(0, 0, 3), none ? NONE : danger);
        int[] best = {NONE, NONE, 9999};
        for (int h = 0; h < r.t.hours; h++) {
            for (int p = 0; p < r.n; p++) {
                Map<Integer, Integer> parts = new HashMap<>();
                for (Past past : worlds) {
                    parts.merge(past.bread[h][p], 1, Integer::sum);
                }
                int greatest = parts.values().stream().mapToInt(i -> i).max().orElse(0);
                if (greatest < best[2]) {
                    best = new int[] {h, p, greatest};
                }
                if (random.nextInt(4) == 0) {
                    int least = parts.keySet().stream().mapToInt(i -> i).min().orElse(NONE);
                    int most = parts.keySet().stream().mapToInt(i -> i).max().orElse(NONE);
                    c.due("pocket least", x.pocket(0, 0, p, h, false), least);
                    c.due("pocket most", x.pocket(0, 0, p, h, true), most);
                }
            }
        }
        for (int what = 0; what < 3; what++) {
            c.due("search " + what, x.search(0, 0, what), none || r.n == 0 ? NONE : best[what]);
        }
    }

    private static void reading(Random r, int many) {
        int[] seen = new int[5];
        for (int i = 0; i < many; i++) {
            int sort = r.nextInt(4) == 0 ? 1 : 0;
            String text = townText(r, true);
            if (sort == 1) {
                StringBuilder s = new StringBuilder();
                for (int k = r.nextInt(11); k > 0; k--) {
                    s.append("pocket ").append(r.nextInt(8)).append(blank(r)).append(r.nextInt(24)).append(blank(r))
                        .append(r.nextInt(100)).append(";");
                }
                text = s.toString();
            }
            text = r.nextInt(4) == 0 ? text : spoilt(r, text);
            Parsed want = parse(sort, text);
            ShakenBread x = new ShakenBread();
            int wrong = c.wrong();
            c.due("text", Check.text(x, sort, NONE, text), want.fault == 0 ? 0 : NONE);
            c.due("fault", x.fault(0), want.fault);
            c.due("place", x.fault(1), want.place);
            c.due("count", x.count(sort), want.fault == 0 ? 1 : 0);
            if (want.fault == 0 && sort == 0) {
                told(x, want.tale);
            } else if (want.fault == 0) {
                c.due("notes", x.note(0, NONE, 0), want.notes.size());
                for (int k = 0; k < want.notes.size() * 3; k++) {
                    c.due("note", x.note(0, k / 3, k % 3), want.notes.get(k / 3)[k % 3]);
                }
            }
            seen[want.fault]++;
            if (c.wrong() > wrong) {
                System.out.println("sort " + sort + ": " + text);
            }
        }
        System.out.println("texts by fault: " + Arrays.toString(seen));
    }

    /** Towns in which gloves are taken and taken off without an end, for 20 rounds, for 21. */
    private static final String[] RESTLESS = {
        "size 2 2;hours 3;law more;eat 3 2;polite 0 2;polite 1 0;plain 1 2;polite 1 1;plain 1 4;errand 1 0;errand 2 1 0;",
        "size 2 2;hours 6;law more;eat 3 2;shy 1 2;polite 0 4;polite 1 2;polite 0 4;errand 1 1 1;errand 3 1 0;",
        "size 2 2;hours 4;law more;eat 3 3;plain 1 3;polite 0 4;shy 1 0;shy 0 4;errand 0 0 1 1;errand 3 0 0 1;",
        "eat 3 6;polite 1 1;shy 1 2;plain 1 5;polite 2 2;polite 0 7;plain 1 8;shy 0 7;plain 2 1;errand 0 2;errand 1 1 0 1 1 2;"
            + "errand 2 0 2;errand 3 0;errand 4 0 0 1 1 0;errand 6 1 1 1 1 2;errand 7 1 0 2;",
        "eat 3 5;shy 2 1;plain 0 5;plain 1 4;shy 1 7;polite 0 0;polite 0 0;plain 1 5;shy 2 7;errand 0 0 2 2 1;errand 1 0 0 1 2;"
            + "errand 2 0 2 0;errand 3 0 2 2 0;errand 6 2 2 0 2 1 0 2 1;errand 7 1 1 2 1 0;quarrel 2 6;quarrel 6 4;quarrel 7 5;"
            + "quarrel 5 2;",
    };

    private static void hold(String text, Random random, boolean orders) {
        Parsed parsed = parse(0, text);
        ShakenBread x = new ShakenBread();
        int wrong = c.wrong();
        c.due("text", Check.text(x, 0, NONE, text), parsed.fault == 0 ? 0 : NONE);
        if (parsed.fault != 0) {
            return;
        }
        Past past = new Past(parsed.tale);
        String book = bookText(random, past);
        c.due("book", Check.text(x, 1, NONE, book), 0);
        told(x, parsed.tale);
        ran(x, past);
        fates(x, past);
        hands(x, past, random);
        gloves(x, past);
        if (orders) {
            order(x, past);
        }
        walk(x, past, random);
        laws(x, past);
        loaves(x, past, random);
        changes(x, past);
        worlds(x, past, parse(1, book).notes, random);
        if (c.wrong() > wrong) {
            System.out.println("town: " + text + "\nbook: " + book);
        }
    }

    public static void main(String[] args) {
        int many = args.length > 0 ? Integer.parseInt(args[0]) : 1200;
        Random random = new Random(args.length > 1 ? Long.parseLong(args[1]) : 37);
        reading(random, many * 20);
        for (int i = 0; i < many; i++) {
            hold(townText(random, i % 4 == 0), random, i % 4 > 0);
        }
        for (String text : RESTLESS) {
            hold(text, random, true);
        }
        c.close("ModelTest");
    }
}
