import java.lang.management.ManagementFactory;
import java.lang.reflect.Constructor;
import java.lang.reflect.Field;
import java.lang.reflect.Method;
import java.lang.reflect.Modifier;
import java.nio.file.Files;
import java.nio.file.Path;
import java.util.ArrayList;
import java.util.List;
import java.util.Random;
import java.util.TreeSet;
import java.util.regex.Matcher;
import java.util.regex.Pattern;

/** The face, some rules of the language, and that no call makes an object or throws. */
public final class FormTest {
    private static final Check c = new Check();

    private static final String FACE = "feed(int,int,int,int,int)int end(int)int text(int,int)int fault(int)int "
        + "town(int,int)int person(int,int,int)int note(int,int,int)int at(int,int,int,int)int hour(int,int,int)int "
        + "run(int,int)int fate(int,int,int)int gloves(int)int order(int,int)int walk(int,int,int,int,int)int "
        + "feeds(int,boolean)int peace(int)int loaf(int,int,int,int,int)int wedding(int,int,int,int)int "
        + "stays(int,int,int)int painted(int,int,int,int)int fever(int,int,int,int)int drawn(int,int,int,int)int "
        + "worlds(int,int,int)int pocket(int,int,int,int,boolean)int search(int,int,int)int news(int,int,int)int "
        + "aid(int,int)int hunger(int,boolean)int swap(int,int)int wed(int,boolean)int tunnel(int,int,int,boolean)int "
        + "richest(int,int)int miser(int,int)int count(int)int image(int)boolean again(int)boolean";

    public static void main(String[] args) throws Exception {
        face();
        words();
        fields();
        wildCalls();
        room();
        c.close("FormTest");
    }

    private static void face() {
        TreeSet<String> want = new TreeSet<>();
        for (String one : FACE.split(" ")) {
            want.add(one);
        }
        TreeSet<String> got = new TreeSet<>();
        TreeSet<String> names = new TreeSet<>();
        TreeSet<String> privates = new TreeSet<>();
        for (Method m : ShakenBread.class.getDeclaredMethods()) {
            if (Modifier.isPrivate(m.getModifiers())) {
                privates.add(m.getName());
                continue;
            }
            StringBuilder s = new StringBuilder(m.getName()).append('(');
            for (Class<?> p : m.getParameterTypes()) {
                s.append(s.charAt(s.length() - 1) == '(' ? "" : ",").append(p);
            }
            got.add(s.append(')').append(m.getReturnType()).toString());
            names.add(m.getName());
            c.due("public and of an object " + m, m.getModifiers(), Modifier.PUBLIC);
        }
        c.due("the face is " + got, got.equals(want), true);
        for (Class<?> inside : ShakenBread.class.getDeclaredClasses()) {
            c.due("static " + inside, Modifier.isStatic(inside.getModifiers()), true);
            c.due("not public " + inside, (inside.getModifiers() & (Modifier.PUBLIC | Modifier.PROTECTED)) == 0, true);
            for (Method m : inside.getDeclaredMethods()) {
                privates.add(m.getName());
            }
        }
        names.retainAll(privates);
        c.due("a private name is a public one, too: " + names, names.size(), 0);
        members();
    }

    private static void members() {
        c.due("class", ShakenBread.class.getModifiers(), Modifier.PUBLIC | Modifier.FINAL);
        for (Field f : ShakenBread.class.getDeclaredFields()) {
            c.due("field " + f, Modifier.isPrivate(f.getModifiers()) || f.getName().equals("NONE"), true);
            c.due("static is final " + f, !Modifier.isStatic(f.getModifiers()) || Modifier.isFinal(f.getModifiers()), true);
        }
        Constructor<?>[] made = ShakenBread.class.getDeclaredConstructors();
        c.due("one constructor", made.length, 1);
        c.due("of no parameters", made[0].getParameterCount(), 0);
        c.due("public", made[0].getModifiers(), Modifier.PUBLIC);
    }

    private static void words() throws Exception {
        String source = Files.readString(Path.of("src/main/java/ShakenBread.java"));
        String code = source.replaceAll("(?s)/\\*.*?\\*/", " ").replaceAll("//[^\n]*", " ")
            .replaceAll("\"[^\"\n]*\"", "\"\"");
        Pattern no = Pattern.compile("\\b(throw|throws|try|catch|finally|assert|synchronized|volatile|transient|native"
            + "|System\\.(?!arraycopy)\\w+|Thread|Random|Exception|Object|interface|record|enum|yield|var)\\b|->|::|@");
        Matcher m = no.matcher(code);
        while (m.find()) {
            c.due("no " + m.group(), 1, 0);
        }
        Matcher imports = Pattern.compile("import\\s+([\\w.]+)").matcher(code);
        while (imports.find()) {
            c.due("import of " + imports.group(1), imports.group(1).equals("java.util.Arrays"), true);
        }
        c.due("signs are 1 to 127", source.chars().allMatch(sign -> sign > 0 && sign < 128), true);
    }

    /** Some twenty fields a class, beside its constants. */
    private static void fields() {
        List<Class<?>> all = new ArrayList<>(List.of(ShakenBread.class.getDeclaredClasses()));
        all.add(ShakenBread.class);
        for (Class<?> one : all) {
            int fields = 0;
            for (Field f : one.getDeclaredFields()) {
                fields += Modifier.isStatic(f.getModifiers()) ? 0 : 1;
            }
            c.due("fields of " + one + ": " + fields, fields <= 20, true);
        }
    }

    private static final String WIDE = "size 6 6; hours 24; eat 1 6; law first; plain 0 30; polite 0 30; shy 0 30;"
        + "plain 0 30; plain 0 30; polite 0 30; plain 0 3; gloved 0 30; extra 0 3; extra 1 3; extra 2 3; extra 3 3;"
        + "extra 4 3; quarrel 0 1; quarrel 1 2; errand 7 1 2 3 4 5 6 7 8 9 10 11 0; errand 6 1 0;";
    private static final String NOTES = "pocket 0 0 30; pocket 7 23 99;";

    private static int wild(Random r) {
        int[] edges = {Integer.MIN_VALUE, Integer.MAX_VALUE, -1000, -2, -1, 24, 25, 30, 31, 36, 600, 1 << 30};
        return r.nextInt(8) == 0 ? edges[r.nextInt(edges.length)] : r.nextInt(r.nextInt(3) == 0 ? 24 : 3);
    }

    /** The test ends with a trace if one of these throws. */
    private static void wildCalls() {
        Random r = new Random(8);
        long sum = 0;
        for (int run = 0; run < 60; run++) {
            ShakenBread x = run % 3 == 0 ? new ShakenBread() : Check.with(run % 3 == 1 ? WIDE : "", NOTES, "");
            for (int i = 0; i < 500; i++) {
                sum += Check.call(x, r.nextInt(Check.METHODS), wild(r), wild(r), wild(r), wild(r), wild(r));
            }
        }
        c.due("wild calls came to an end", sum != 1, true);
    }

    private static void room() {
        com.sun.management.ThreadMXBean threads =
            (com.sun.management.ThreadMXBean) ManagementFactory.getThreadMXBean();
        long thread = Thread.currentThread().getId();
        ShakenBread x = Check.with(WIDE, NOTES, "");
        Check.text(x, 0, -1, "");
        long none = threads.getThreadAllocatedBytes(thread);
        none = threads.getThreadAllocatedBytes(thread);
        long ahead = threads.getThreadAllocatedBytes(thread);
        for (int method = 0; method < Check.METHODS; method++) {
            Check.call(x, method, 0, 0, 0, 1, 0);
            Check.call(x, method, 0, 1, 1, 1, 11);
        }
        long behind = threads.getThreadAllocatedBytes(thread);
        c.due("bytes made by calls: " + (behind - ahead - (ahead - none)), behind - ahead < 4096, true);
        ahead = threads.getThreadAllocatedBytes(thread);
        x = new ShakenBread();
        behind = threads.getThreadAllocatedBytes(thread);
        c.due("bytes of an object: " + (behind - ahead), behind - ahead < 400000 && x.count(0) == 0, true);
    }
}
