import java.io.IOException;
import java.lang.reflect.Constructor;
import java.lang.reflect.Field;
import java.lang.reflect.Member;
import java.lang.reflect.Method;
import java.lang.reflect.Modifier;
import java.nio.file.Files;
import java.nio.file.Path;
import java.util.ArrayList;
import java.util.List;
import java.util.TreeSet;
import java.util.regex.Matcher;
import java.util.regex.Pattern;

/** The public face, what of ../shared/LANGUAGE.md can be seen from outside, and what calls leave in the room. */
public final class RulesTest {
    private static final Due DUE = new Due("RulesTest");
    private static final Class<?> CLASS = TwoWhistlesAndFiveEwes.class;

    private static final String FACE = "int back() int bare() int behind(int int int) int best() int copy(int int int int int) "
        + "int dog(int) int done(int int) int evening(int) int ewe(int int int) int eweOf(int int) int ewes(int) "
        + "int feed(int) int fewest(int int) int grazing() int hasWall(int) int held() int hill() int holds(int) int image() "
        + "int judge(int int) int kinds(int int int int) int last() int late(int int int) int most(int int) "
        + "int move(int int) int near(int int) int odds(int int) int open(int) int path(int) int pen(int) int reach(int) "
        + "int row(int int int) int says(int int) int seed(int) int set(int int long) int show(int int) int shy(int) "
        + "int side(int) int stand() int status(int) int steps() int still(int) int turn(int) int wall(int boolean) "
        + "int ways(int) int wind(int) int wipe() long element(int int) ";

    private static String faceOf(Method m) {
        StringBuilder face = new StringBuilder(m.getReturnType() + " " + m.getName() + "(");
        for (int i = 0; i < m.getParameterCount(); i++) {
            face.append(i > 0 ? " " : "").append(m.getParameterTypes()[i]);
        }
        return face.append(")").toString();
    }

    private static void isTrue(String what, boolean is) {
        DUE.is(what, is ? 1 : 0, 1);
    }

    private static void privateOrPublic(Member m) {
        isTrue(m + " is public or private", Modifier.isPublic(m.getModifiers()) || Modifier.isPrivate(m.getModifiers()));
    }

    private static void face() {
        TreeSet<String> face = new TreeSet<>();
        TreeSet<String> names = new TreeSet<>();
        for (Method m : CLASS.getDeclaredMethods()) {
            privateOrPublic(m);
            if (Modifier.isPublic(m.getModifiers())) {
                face.add(faceOf(m));
                names.add(m.getName());
            }
        }
        StringBuilder all = new StringBuilder();
        for (String f : face) {
            all.append(f).append(" ");
        }
        isTrue("the face is " + FACE + ", not " + all, FACE.equals(all.toString()));
        for (Constructor<?> c : CLASS.getDeclaredConstructors()) {
            isTrue("one public constructor", Modifier.isPublic(c.getModifiers()) && c.getParameterCount() == 0);
        }
        for (Field f : CLASS.getDeclaredFields()) {
            privateOrPublic(f);
            isTrue(f + ": no other public field", !Modifier.isPublic(f.getModifiers()) || f.getName().equals("NONE"));
            isTrue(f + ": static fields are final", !Modifier.isStatic(f.getModifiers()) || Modifier.isFinal(f.getModifiers()));
        }
        isTrue("public and final", Modifier.isPublic(CLASS.getModifiers()) && Modifier.isFinal(CLASS.getModifiers()));
        for (Method m : CLASS.getDeclaredMethods()) {
            isTrue(m + " bears no public one's name", !Modifier.isPrivate(m.getModifiers()) || !names.contains(m.getName()));
        }
        for (Class<?> inside : CLASS.getDeclaredClasses()) {
            isTrue(inside + " is static", Modifier.isStatic(inside.getModifiers()));
            for (Method m : inside.getDeclaredMethods()) {
                isTrue(m + " bears no public one's name", !names.contains(m.getName()));
                isTrue(m + " takes at most seven", m.getParameterCount() <= 7);
            }
            isTrue(inside + " has at most twenty fields", inside.getDeclaredFields().length <= 20);
        }
        isTrue("at most twelve classes", CLASS.getDeclaredClasses().length < 12);
    }

    private static void source() throws IOException {
        String text = Files.readString(Path.of("src/main/java/TwoWhistlesAndFiveEwes.java"));
        for (int i = 0; i < text.length(); i++) {
            if (text.charAt(i) > 126) {
                isTrue("plain signs alone", false);
            }
        }
        String code = text.replaceAll("(?s)/\\*.*?\\*/", "").replaceAll("//[^\n]*", "");
        for (String word : List.of("throw", "throws", "try", "catch", "finally", "synchronized", "assert", "package", "native",
            "protected", "yield", "var", "\\w*Exact", "hashCode", "toString", "Random", "System\\.(?!arraycopy)\\w+",
            "->", "::", "static \\{", "@", "new String", "Object")) {
            boolean isWord = Character.isLetterOrDigit(word.charAt(word.length() - 1)) || word.endsWith("+");
            Matcher m = Pattern.compile(isWord ? "\\b" + word + "\\b" : word).matcher(code);
            isTrue("no " + word, !m.find());
        }
        Matcher imports = Pattern.compile("import ([^;]+);").matcher(code);
        while (imports.find()) {
            isTrue("import " + imports.group(1), List.of("java.util.Arrays", "java.util.ArrayList", "java.util.List",
                "java.util.Iterator").contains(imports.group(1)));
        }
    }

    /** How many bytes calls leave on the heap; none of them may be in need of any. */
    private static long bytesOf(Runnable calls) {
        com.sun.management.ThreadMXBean threads =
            (com.sun.management.ThreadMXBean) java.lang.management.ManagementFactory.getThreadMXBean();
        long id = Thread.currentThread().getId();
        long ahead = threads.getThreadAllocatedBytes(id);
        calls.run();
        return threads.getThreadAllocatedBytes(id) - ahead;
    }

    private static void callAll(TwoWhistlesAndFiveEwes x) {
        Due.fill(x, 0, 0, 3, 1, 3, 1, 3, 1);
        x.row(1, 3, 40);
        x.fewest(6, -1);
        x.most(5, -1);
        x.odds(0, 6);
        x.stand();
        x.best();
        x.shy(0);
        x.still(1);
        x.late(0, 6, 3);
        x.behind(0, 6, 2);
        x.kinds(0, 1, 0, 1);
        x.path(1);
        x.reach(99);
        x.ways(6);
        x.bare();
        x.ewes(0);
        x.ewes(1);
        x.evening(60);
        x.image();
        x.back();
        x.show(7, 1);
        x.says(7, 0);
        for (int i = 0; i < 9; i++) {
            x.feed("wind 3;si".charAt(i));
        }
        x.hill();
        x.element(0, 9);
        x.status(11);
    }

    private static TwoWhistlesAndFiveEwes fullHill() {
        TwoWhistlesAndFiveEwes x = new TwoWhistlesAndFiveEwes();
        x.side(7);
        x.pen(33);
        for (int kind = 1; kind < 6; kind++) {
            x.ewe(kind, 9, 10 * kind + 1);
        }
        return x;
    }

    private static void room() {
        TwoWhistlesAndFiveEwes x = fullHill();
        callAll(x);
        bytesOf(() -> callAll(x));
        long calls = bytesOf(() -> {
            for (int i = 0; i < 7; i++) {
                callAll(x);
            }
        });
        isTrue("calls leave nothing in the room, not " + calls + " bytes", calls < 4096);
        List<TwoWhistlesAndFiveEwes> kept = new ArrayList<>();
        long object = bytesOf(() -> kept.add(new TwoWhistlesAndFiveEwes()));
        isTrue("an object takes little, not " + object + " bytes", object < 16384);
    }

    public static void main(String[] args) throws IOException {
        face();
        source();
        room();
        DUE.end();
    }
}
