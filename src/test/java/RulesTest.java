import java.lang.management.ManagementFactory;
import java.lang.reflect.Constructor;
import java.lang.reflect.Field;
import java.lang.reflect.Method;
import java.lang.reflect.Modifier;
import java.nio.file.Files;
import java.nio.file.Path;
import java.util.ArrayList;
import java.util.Arrays;
import java.util.List;
import java.util.TreeSet;
import java.util.regex.Matcher;
import java.util.regex.Pattern;

/**
 * The rules of LANGUAGE.md that can be looked at from outside: the face, words that are not to
 * stand in the file, how long methods are. The first argument is the file.
 */
public final class RulesTest {
    private static final String[] FACE = {"back:0", "behind:2", "best:3", "cell:2", "century:3", "comes:2",
        "count:1", "dig:1", "ditches:4", "fault:0", "fill:1", "fits:2", "forget:0", "frost:5", "has:1", "keep:0",
        "lay:0", "leave:1", "meet:2", "pass:1", "row:2", "see:3", "tree:2", "undo:0", "wealth:2", "wipe:0",
        "write:1", "again:0"};
    private static final String[] NOT_IN_IT = {"import", "package", "try", "catch", "throw", "finally", "assert",
        "synchronized", "->", "::", "native", "volatile", "instanceof", "equals", "hashCode", "toString", "System",
        "Object", "Exact", "var", "record", "sealed", "Math.random", "Thread"};

    private static final Due due = new Due();

    public static void main(String[] args) throws Exception {
        face();
        members();
        String code = bare(Files.readString(Path.of(args[0])));
        words(code);
        methods(code);
        nothingMade();
        due.end("RulesTest");
    }

    private static void face() {
        TreeSet<String> face = new TreeSet<>();
        for (Method m : WalkingOrchard.class.getDeclaredMethods()) {
            if (Modifier.isPublic(m.getModifiers())) {
                face.add(m.getName() + ":" + m.getParameterCount());
                due.is("an int comes from " + m, m.getReturnType() == int.class ? 1 : 0, 1);
                due.is("of the object itself: " + m, Modifier.isStatic(m.getModifiers()) ? 1 : 0, 0);
            } else {
                due.is("rule 1: private: " + m, hidden(m.getModifiers(), m.isSynthetic()), 1);
            }
        }
        due.is("the face", face.equals(new TreeSet<>(Arrays.asList(FACE))) ? 1 : 0, 1);
        Constructor<?>[] constructors = WalkingOrchard.class.getDeclaredConstructors();
        due.is("one constructor", constructors.length, 1);
        due.is("it takes nothing", constructors[0].getParameterCount(), 0);
        due.is("it is public", Modifier.isPublic(constructors[0].getModifiers()) ? 1 : 0, 1);
        int how = WalkingOrchard.class.getModifiers();
        due.is("public and final", Modifier.isPublic(how) && Modifier.isFinal(how) ? 1 : 0, 1);
    }

    private static int hidden(int modifiers, boolean made) {
        return made || Modifier.isPrivate(modifiers) ? 1 : 0;
    }

    private static void members() {
        TreeSet<String> constants = new TreeSet<>();
        int fields = 0;
        for (Field f : WalkingOrchard.class.getDeclaredFields()) {
            boolean fixed = Modifier.isStatic(f.getModifiers());
            fields += fixed ? 0 : 1;
            due.is("rule 5: final: " + f, !fixed || Modifier.isFinal(f.getModifiers()) ? 1 : 0, 1);
            if (Modifier.isPublic(f.getModifiers())) {
                constants.add(f.getName());
            } else {
                due.is("rule 1: private: " + f, hidden(f.getModifiers(), f.isSynthetic()), 1);
            }
        }
        due.is("the constants", constants.equals(new TreeSet<>(List.of("BAD", "NO", "FULL", "NONE"))) ? 1 : 0, 1);
        due.is("rule 11: fields", fields <= 20 ? 1 : 0, 1);
        Class<?>[] inside = WalkingOrchard.class.getDeclaredClasses();
        due.is("rule 11: classes", inside.length <= 11 ? 1 : 0, 1);
        for (Class<?> c : inside) {
            due.is("rule 2: static: " + c, Modifier.isStatic(c.getModifiers()) ? 1 : 0, 1);
            due.is("rule 1: not public: " + c, Modifier.isPublic(c.getModifiers()) ? 1 : 0, 0);
            for (Method m : c.getDeclaredMethods()) {
                boolean named = Arrays.stream(FACE).anyMatch(name -> name.startsWith(m.getName() + ":"));
                due.is("rule 1: no name of the face: " + m, named ? 1 : 0, 0);
            }
        }
    }

    /** The code without comments and without what stands between quotes. */
    private static String bare(String file) {
        String code = file.replaceAll("(?s)/\\*.*?\\*/", "").replaceAll("//[^\n]*", "");
        for (char sign : file.toCharArray()) {
            if (sign < 1 || sign > 127) {
                due.is("rule 4: a sign of the file", sign, 0);
            }
        }
        return code.replaceAll("\"[^\"\n]*\"", "\"\"").replaceAll("'[^'\n]*'", "' '");
    }

    private static void words(String code) {
        for (String word : NOT_IN_IT) {
            boolean letters = Character.isLetter(word.charAt(0));
            Pattern pattern = Pattern.compile(letters ? "\\b" + Pattern.quote(word) + "\\b" : Pattern.quote(word));
            due.is("not in it: " + word, pattern.matcher(code).find() ? 1 : 0, 0);
        }
        due.is("rule 10: no texts joined by +", Pattern.compile("\"\\s*\\+|\\+\\s*\"").matcher(code).find() ? 1 : 0, 0);
    }

    private static void methods(String code) {
        Pattern head = Pattern.compile("\n( {4}| {8})(?:[a-zA-Z\\[\\]]+ )*[a-zA-Z\\[\\]]+ ?[a-zA-Z]*\\(([^)]*)\\) \\{\n");
        Matcher m = head.matcher(code);
        List<Integer> lengths = new ArrayList<>();
        while (m.find()) {
            String indent = m.group(1);
            int end = code.indexOf("\n" + indent + "}\n", m.end() - 1);
            int lines = (int) code.substring(m.start(), end).chars().filter(c -> c == '\n').count();
            lengths.add(lines);
            due.is("rule 11: how long: " + m.group().trim(), lines <= 60 ? 1 : 0, 1);
            due.is("rule 11: parameters: " + m.group().trim(), m.group(2).split(",").length <= 7 ? 1 : 0, 1);
        }
        due.is("the methods were found", lengths.size() > 60 ? 1 : 0, 1);
    }

    /** All calls of a run live in one room: no call makes an object. */
    private static void nothingMade() {
        WalkingOrchard o = new WalkingOrchard();
        useAll(o);
        com.sun.management.ThreadMXBean thread =
            (com.sun.management.ThreadMXBean) ManagementFactory.getThreadMXBean();
        long self = Thread.currentThread().getId();
        thread.getThreadAllocatedBytes(self);
        long ahead = thread.getThreadAllocatedBytes(self);
        useAll(o);
        long made = thread.getThreadAllocatedBytes(self) - ahead;
        due.is("rule 12: bytes made by calls", made < 2000 ? 0 : made, 0);
        ahead = thread.getThreadAllocatedBytes(self);
        new WalkingOrchard();
        made = thread.getThreadAllocatedBytes(self) - ahead;
        due.is("rule 12: bytes made by an orchard", made < 20000 ? 0 : made, 0);
    }

    private static void useAll(WalkingOrchard o) {
        for (int i = 0; i < 8; i++) {
            o.write('l');
            o.fault();
            o.lay();
            o.pass(2);
            o.dig(i);
            o.leave(i % 3);
            o.fill(i);
            o.behind(9, 0);
            o.wealth(9, 0);
            o.comes(0, 29);
            o.meet(0, 1);
            o.again();
            o.ditches(i % 3, 3 * i, 20, 0);
            o.best(i % 4, 20, 0);
            o.see(0, i, i);
            o.fits(0, i % 2);
            o.frost(0, i, 8, 5, 0);
            o.century(i, 60, 0);
            o.keep();
            o.undo();
            o.back();
            o.count(i);
        }
    }
}
