import java.lang.reflect.Constructor;
import java.lang.reflect.Field;
import java.lang.reflect.Method;
import java.lang.reflect.Modifier;
import java.nio.file.Files;
import java.nio.file.Path;
import java.util.List;
import java.util.Set;
import java.util.TreeSet;
import java.util.regex.Matcher;
import java.util.regex.Pattern;

/** The public face, the rules of the language that can be looked for, and the room that calls take. */
public final class FaceTest {
    private static final Set<String> FACE = Set.of("feed(1)", "end(1)", "text(0)", "fault(0)", "reason(1)", "rule(1)",
        "sign(2)", "low(2)", "around(2)", "whole(1)", "bare(2)", "longest(1)", "seen(1)", "put(2)", "insert(2)", "drop(2)",
        "move(3)", "copy(3)", "turn(2)", "mark(2)", "grow(2)", "undo(0)", "redo(0)", "keep(1)", "back(1)", "sheet(3)",
        "lay(3)", "read(4)", "torn(0)", "count(1)");
    private static final List<String> NOT_IN_THE_LANGUAGE = List.of("\\bthrow\\b", "\\btry\\b", "\\bcatch\\b",
        "\\bsynchronized\\b", "\\bassert\\b", "\\bimport\\b", "\\bpackage\\b", "->", "::", "@", "Exact\\b", "\\bhashCode\\b",
        "\\btoString\\b", "\\bObject\\b", "while \\(true\\)", "for \\(;;\\)", "\\bprotected\\b", "\\binstanceof\\b");
    private static final int LONGEST_METHOD = 60;

    public static void main(String[] args) throws Exception {
        constants();
        members();
        nestedClasses();
        source();
        room();
        Check.close();
    }

    private static void constants() {
        Check.due("BAD", FoldKeeper.BAD, -1);
        Check.due("STATE", FoldKeeper.STATE, -2);
        Check.due("FULL", FoldKeeper.FULL, -3);
        Check.due("NONE", FoldKeeper.NONE, -4);
    }

    private static void members() {
        Class<?> face = FoldKeeper.class;
        Check.holds("public and final", Modifier.isPublic(face.getModifiers()) && Modifier.isFinal(face.getModifiers()));
        Set<String> found = new TreeSet<>();
        Set<String> names = new TreeSet<>();
        for (Method m : face.getDeclaredMethods()) {
            if (!Modifier.isPrivate(m.getModifiers())) {
                found.add(m.getName() + "(" + m.getParameterCount() + ")");
                names.add(m.getName());
                Check.holds(m + " answers an int", m.getReturnType() == int.class && Modifier.isPublic(m.getModifiers()));
                for (Class<?> type : m.getParameterTypes()) {
                    Check.holds(m + " takes ints", type == int.class);
                }
            }
        }
        Check.holds("the face is the document's: " + found, found.equals(new TreeSet<>(FACE)));
        for (Method m : face.getDeclaredMethods()) {
            Check.holds(m + " bears a name of its own", !Modifier.isPrivate(m.getModifiers()) || !names.contains(m.getName()));
        }
        for (Constructor<?> c : face.getDeclaredConstructors()) {
            Check.holds("one constructor", Modifier.isPublic(c.getModifiers()) && c.getParameterCount() == 0);
        }
        Set<String> constants = Set.of("BAD", "STATE", "FULL", "NONE");
        for (Field f : face.getDeclaredFields()) {
            Check.holds(f + " is private or a constant", Modifier.isPrivate(f.getModifiers()) || constants.contains(f.getName()));
        }
    }

    private static void nestedClasses() {
        Class<?>[] nested = FoldKeeper.class.getDeclaredClasses();
        Check.holds("some twelve classes at most", nested.length <= 12);
        for (Class<?> c : nested) {
            Check.holds(c + " is static", Modifier.isStatic(c.getModifiers()));
            Check.holds(c + " is not public", !Modifier.isPublic(c.getModifiers()) && !Modifier.isProtected(c.getModifiers()));
            int fields = 0;
            for (Field f : c.getDeclaredFields()) {
                boolean fixed = Modifier.isStatic(f.getModifiers());
                Check.holds(f + " is final if it is static", !fixed || Modifier.isFinal(f.getModifiers()));
                fields += fixed ? 0 : 1;
            }
            Check.holds(c + " has some twenty fields at most", fields <= 20);
            for (Method m : c.getDeclaredMethods()) {
                Check.holds(m + " takes seven parameters at most", m.getParameterCount() <= 7);
            }
        }
    }

    private static void source() throws Exception {
        String source = Files.readString(Path.of("src/main/java/FoldKeeper.java"));
        String code = source.replaceAll("(?s)/\\*.*?\\*/", "").replaceAll("//[^\n]*", "").replaceAll("\"[^\"\n]*\"", "\"\"");
        for (String word : NOT_IN_THE_LANGUAGE) {
            Check.holds("no " + word, !Pattern.compile(word).matcher(code).find());
        }
        int began = 0;
        String[] lines = code.split("\n");
        Matcher closing;
        for (int i = 0; i < lines.length; i++) {
            if (lines[i].matches(" {4}( {4})?[a-zA-Z].*\\) \\{")) {
                began = i;
            }
            closing = Pattern.compile(" {4}( {4})?\\}").matcher(lines[i]);
            if (closing.matches()) {
                Check.holds("a short method at line " + began, i - began <= LONGEST_METHOD);
            }
        }
    }

    /** No call makes an object: all rows are made with the object itself. */
    private static void room() {
        com.sun.management.ThreadMXBean threads = (com.sun.management.ThreadMXBean) java.lang.management.ManagementFactory.getThreadMXBean();
        long self = Thread.currentThread().getId();
        int[] text = "row \"(a/)[\";rep 3 \"{/}\";mark 0;".chars().toArray();
        FoldKeeper x = new FoldKeeper();
        useAll(x, text);
        threads.getThreadAllocatedBytes(self);
        long ahead = threads.getThreadAllocatedBytes(self);
        useAll(x, text);
        long behind = threads.getThreadAllocatedBytes(self);
        Check.holds("no call makes an object, bytes: " + (behind - ahead), behind - ahead < 200);
        Check.holds("but the counter counts", countedRow(threads, self));
    }

    private static boolean countedRow(com.sun.management.ThreadMXBean threads, long self) {
        long ahead = threads.getThreadAllocatedBytes(self);
        int[] row = new int[1000];
        row[999] = 1;
        return threads.getThreadAllocatedBytes(self) - ahead >= 4000 + row[0];
    }

    private static void useAll(FoldKeeper x, int[] text) {
        for (int c : text) {
            x.feed(c);
        }
        x.text();
        x.feed('!');
        x.end(0);
        x.put(1, 'b');
        x.insert(3, '(');
        x.copy(0, 4, 2);
        x.move(0, 4, 7);
        x.turn(1, 5);
        x.mark(0, 1);
        x.drop(2, 2);
        x.grow(5, 30);
        x.sheet(0, 0, 40);
        x.lay(0, 0, 'a');
        x.read(0, 0, 0, 1);
        x.read(0, 1, 0, 1);
        x.keep(0);
        x.undo();
        x.redo();
        x.back(0);
        for (int i = 0; i <= 10; i++) {
            x.rule(i);
            x.sign(2, i);
            x.around(2, i);
            x.whole(i);
            x.bare(5, i);
            x.longest(i);
            x.seen(i);
            x.low(0, i);
            x.count(i);
            x.reason(i);
        }
        x.fault();
        x.torn();
    }
}
