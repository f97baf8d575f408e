import java.lang.reflect.Array;
import java.lang.reflect.Constructor;
import java.lang.reflect.Field;
import java.lang.reflect.Method;
import java.lang.reflect.Modifier;
import java.nio.file.Files;
import java.nio.file.Path;
import java.util.ArrayList;
import java.util.Collections;
import java.util.IdentityHashMap;
import java.util.List;
import java.util.Set;
import java.util.TreeSet;
import java.util.regex.Matcher;
import java.util.regex.Pattern;

/** The public face of the document, and those rules of LANGUAGE.md that can be seen from outside. Run in the project's directory. */
public final class FaceTest {
    private static final String[] FACE = {
        "boolean end(int)", "int asks()", "int below()", "int byRule(int)", "int count(int)", "int drops()", "int entry(int,int)", "int entryType(int,int)", "int fault(int)",
        "int feed(int,int,int,int,int)", "int infers()", "int judged(int)", "int keeps(int)", "int shelf(int,int)", "int shelfBelow(int,int)", "int shelfType(int,int)",
        "int step(int,int)", "int tells(int)", "int type(int)", "int worked(int)"
    };

    private static String told(Method m) {
        StringBuilder s = new StringBuilder(m.getReturnType().getName() + " " + m.getName() + "(");
        for (int i = 0; i < m.getParameterCount(); i++) s.append(i == 0 ? "" : ",").append(m.getParameterTypes()[i].getName());
        return s + ")";
    }

    private static void face() {
        int how = RankChecker.class.getModifiers();
        Calls.due("the class is public and final", Modifier.isPublic(how) && Modifier.isFinal(how) ? 1 : 0, 1);
        TreeSet<String> seen = new TreeSet<>();
        for (Method m : RankChecker.class.getDeclaredMethods()) {
            if (m.isSynthetic()) continue;
            if (Modifier.isPublic(m.getModifiers())) seen.add(told(m));
            else Calls.due(m.getName() + " is private", Modifier.isPrivate(m.getModifiers()) ? 1 : 0, 1);
        }
        Calls.due("public methods", seen.toString(), new TreeSet<>(List.of(FACE)).toString());
        for (Field f : RankChecker.class.getDeclaredFields()) {
            if (!f.isSynthetic()) Calls.due("field " + f.getName(), Modifier.isPublic(f.getModifiers()) == f.getName().equals("NONE") ? 1 : 0, 1);
        }
        Constructor<?>[] made = RankChecker.class.getDeclaredConstructors();
        Calls.due("constructors", made.length, 1);
        Calls.due("it is public", Modifier.isPublic(made[0].getModifiers()) && made[0].getParameterCount() == 0 ? 1 : 0, 1);
        TreeSet<String> names = new TreeSet<>();
        for (String s : FACE) names.add(s.replaceAll(".* |\\(.*", ""));
        for (Class<?> inner : RankChecker.class.getDeclaredClasses()) {
            Calls.due(inner.getName() + " is static", Modifier.isStatic(inner.getModifiers()) ? 1 : 0, 1);
            for (Method m : inner.getDeclaredMethods()) Calls.due(inner.getName() + "." + m.getName() + " bears a public name", names.contains(m.getName()) ? 1 : 0, 0);
            int fields = 0;
            for (Field f : inner.getDeclaredFields()) {
                if (!Modifier.isStatic(f.getModifiers())) fields++;
                else Calls.due(inner.getName() + "." + f.getName() + " is final", Modifier.isFinal(f.getModifiers()) ? 1 : 0, 1);
            }
            Calls.due(inner.getName() + " has some twenty fields", fields <= 20 ? 1 : 0, 1);
        }
        Calls.due("some twelve classes", RankChecker.class.getDeclaredClasses().length < 12 ? 1 : 0, 1);
    }

    private static void words() throws Exception {
        List<String> lines = Files.readAllLines(Path.of("src/main/java/RankChecker.java"));
        List<String> imports = new ArrayList<>();
        Pattern method = Pattern.compile("^( {4}| {8})(?:\\w+ )*[\\w\\[\\]]+ \\w+\\(.*\\{$");
        for (int i = 0; i < lines.size(); i++) {
            String line = lines.get(i);
            if (line.startsWith("import")) imports.add(line);
            for (String word : new String[] {"->", "::", "try {", "catch (", "synchronized", "assert ", "System.out", "Random", "Thread", "Object", "hashCode", "toString", "Exact("}) {
                if (line.contains(word)) Calls.due("line " + (i + 1) + " has " + word, 1, 0);
            }
            Matcher m = method.matcher(line);
            if (!m.matches() || line.contains(" class ")) continue;
            int end = i;
            while (!lines.get(end).equals(m.group(1) + "}")) end++;
            Calls.due("lines of the method at " + (i + 1), end - i < 60 ? 1 : 0, 1);
        }
        Calls.due("imports", imports.toString(), "[import java.util.NoSuchElementException;]");
    }

    /** All calls of a run live in one room: an object takes a small part of it when it is made, and no call takes more. */
    private static void room() throws Exception {
        long[] made = sizes(new RankChecker());
        Calls.due("objects and arrays of a new object are few", made[0] < 200 ? 1 : 0, 1);
        Calls.due("fields and elements of a new object are few", made[1] < 150000 ? 1 : 0, 1);
        Calls c = new Calls();
        for (int i = 0; i < 8; i++) c.keeps(Calls.tree(",", 36, "/x1"), (char) ('a' + i));
        c.infers(Calls.tree("+", 50, "1 "));
        c.asks("N");
        c.x.shelfBelow(0, 7);
        c.x.worked(0);
        c.below("!a>aa>NN");
        long[] used = sizes(c.x);
        Calls.due("objects of a used one", used[0], made[0]);
        Calls.due("fields and elements of a used one", used[1], made[1]);
    }

    /** How many objects and arrays can be come to, and how many fields and elements they have. */
    private static long[] sizes(Object from) throws Exception {
        Set<Object> seen = Collections.newSetFromMap(new IdentityHashMap<>());
        List<Object> due = new ArrayList<>(List.of(from));
        long parts = 0;
        while (!due.isEmpty()) {
            Object one = due.remove(due.size() - 1);
            if (one == null || !seen.add(one)) continue;
            if (one.getClass().isArray()) {
                parts += Array.getLength(one);
                if (one instanceof Object[] all) for (Object o : all) due.add(o);
                continue;
            }
            for (Field f : one.getClass().getDeclaredFields()) {
                if (Modifier.isStatic(f.getModifiers())) continue;
                parts++;
                f.setAccessible(true);
                if (!f.getType().isPrimitive()) due.add(f.get(one));
            }
        }
        return new long[] {seen.size(), parts};
    }

    /** Any int in any place, on objects in any state: nothing but what the document tells is thrown. */
    private static void anyInts() {
        int[] ints = {Integer.MIN_VALUE, -100, -3, -2, -1, 0, 1, 2, 3, 4, 5, 6, 7, 8, 9, 25, 26, 36, 37, 149, 150, 299, 300, 301, 512, 0x2f782078, Integer.MAX_VALUE};
        for (String text : new String[] {null, "/f@f1", "+1T", ":1!a>aa", "&f/x@xx@ff"}) {
            Calls c = new Calls();
            if (text != null) c.infers(text);
            if (text != null) c.x.keeps(5);
            for (int a : ints) {
                for (int b : ints) {
                    c.x.entry(a, b);
                    c.x.entryType(a, b);
                    c.x.shelf(a, b);
                    c.x.shelfType(a, b);
                    c.x.shelfBelow(a, b);
                    c.noStep(a, b);
                }
                c.x.judged(a);
                c.x.type(a);
                c.x.count(a);
                c.x.byRule(a);
                c.x.worked(a);
                c.x.feed(a, ~a, a >>> 3, a * 31, -a);
                c.x.fault(a);
                c.x.tells(a);
                c.x.end(a);
                c.x.keeps(a);
                if ((a & 3) == 1) c.x.drops();
            }
        }
    }

    public static void main(String[] args) throws Exception {
        face();
        words();
        room();
        anyInts();
        Calls.ends("FaceTest");
    }
}
