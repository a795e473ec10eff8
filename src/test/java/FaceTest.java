import java.lang.reflect.Constructor;
import java.lang.reflect.Field;
import java.lang.reflect.Member;
import java.lang.reflect.Method;
import java.lang.reflect.Modifier;
import java.nio.file.Files;
import java.nio.file.Path;
import java.util.Arrays;
import java.util.Set;
import java.util.TreeSet;

/** The public face, and as much of LANGUAGE.md as can be looked at from outside. */
public final class FaceTest {
    private static final String[] FACE = {
        "int piece(int, int, int, int)", "int ofRound(int, int)", "int loops(int)", "int sign(int, int)", "int loop(int, int, int)",
        "int spun(int, int)", "int puton(int, int, int, int, int, int)", "int ravel(int)", "int day(int, int, int, int, int)",
        "int fewest(int, int)", "long ways(int, int)", "int bare(int)", "int reading(int, int)", "int back(int)", "int rings()",
        "int kinds(int)", "int signings(int, int)", "long odds(int, int)", "int sheet(int, int, int)", "int lose(int)",
        "int put(int, int, int)", "long cell(int, int, int)", "int copy(int, int, int, int, int)", "int tell(int)", "int tug(int)",
        "int as(int, int)", "int trace()", "int fault()", "int many(int)"};
    private static final String[] RULED_OUT = {
        "throw", "throws", "try", "catch", "finally", "synchronized", "assert", "Object", "equals", "hashCode", "toString", "Random",
        "Thread", "File", "currentTimeMillis", "nanoTime", "Exact", "->", "::"};

    public static void main(String[] args) throws Exception {
        constants();
        face();
        insides();
        source();
        Due.end();
    }

    private static void constants() {
        Due.is("UNKNOWN", LoopRounds.UNKNOWN, -1);
        Due.is("OUTSIDE", LoopRounds.OUTSIDE, -2);
        Due.is("STATE", LoopRounds.STATE, -3);
        Due.is("FULL", LoopRounds.FULL, -4);
        Due.is("NONE", LoopRounds.NONE, -9);
        Due.is("LOST", LoopRounds.LOST, Long.MIN_VALUE);
        Set<String> names = new TreeSet<>();
        for (Field field : LoopRounds.class.getDeclaredFields()) {
            if (!Modifier.isPrivate(field.getModifiers())) {
                names.add(field.getName());
            }
        }
        Due.holds("these constants alone: " + names, names.toString().equals("[FULL, LOST, NONE, OUTSIDE, STATE, UNKNOWN]"));
    }

    private static void face() {
        Set<String> due = new TreeSet<>(Arrays.asList(FACE));
        Set<String> there = new TreeSet<>();
        for (Method method : LoopRounds.class.getDeclaredMethods()) {
            if (Modifier.isPrivate(method.getModifiers())) {
                continue;
            }
            Due.holds(method + " is public and of the object", method.getModifiers() == Modifier.PUBLIC);
            String takes = Arrays.toString(method.getParameterTypes());
            there.add(method.getReturnType() + " " + method.getName() + "(" + takes.substring(1, takes.length() - 1) + ")");
        }
        Due.holds("the document's methods alone: " + there, there.equals(due));
        Constructor<?>[] made = LoopRounds.class.getDeclaredConstructors();
        Due.is("one constructor", made.length, 1);
        Due.holds("public, of nothing", Modifier.isPublic(made[0].getModifiers()) && made[0].getParameterCount() == 0);
        Due.holds("public and final", LoopRounds.class.getModifiers() == (Modifier.PUBLIC | Modifier.FINAL));
    }

    private static void insides() {
        Set<String> names = new TreeSet<>();
        for (String method : FACE) {
            names.add(method.substring(method.indexOf(' ') + 1, method.indexOf('(')));
        }
        Class<?>[] classes = LoopRounds.class.getDeclaredClasses();
        Due.holds("at most twelve classes", classes.length < 12);
        for (Class<?> inside : classes) {
            int how = inside.getModifiers();
            Due.holds(inside + " is static", Modifier.isStatic(how));
            Due.holds(inside + " is not public", !Modifier.isPublic(how) && !Modifier.isProtected(how));
            look(inside, names);
        }
        look(LoopRounds.class, names);
    }

    private static void look(Class<?> in, Set<String> names) {
        int fields = 0;
        for (Field field : in.getDeclaredFields()) {
            boolean isStatic = Modifier.isStatic(field.getModifiers());
            Due.holds(field + " is final, if static", !isStatic || Modifier.isFinal(field.getModifiers()));
            fields += isStatic ? 0 : 1;
        }
        Due.holds(in + " has at most twenty fields", fields <= 20);
        for (Method method : in.getDeclaredMethods()) {
            Due.holds(method + " takes at most seven", method.getParameterCount() <= 7);
            Due.holds(method + " bears no public one's name", isPublic(method) || !names.contains(method.getName()));
        }
    }

    private static boolean isPublic(Member member) {
        return Modifier.isPublic(member.getModifiers());
    }

    private static void source() throws Exception {
        String code = Files.readString(Path.of("src/main/java/LoopRounds.java"));
        String bare = code.replaceAll("(?s)/\\*.*?\\*/", "").replaceAll("//[^\n]*", "");
        for (String word : RULED_OUT) {
            boolean isWord = Character.isLetter(word.charAt(0)) && !word.equals("Exact");
            String pattern = isWord ? "(?s).*\\b" + word + "\\b.*" : "(?s).*" + word + ".*";
            Due.holds("no " + word, !bare.matches(pattern));
        }
        for (String line : bare.split("\n")) {
            if (line.startsWith("import")) {
                Due.holds(line, line.equals("import java.util.Arrays;"));
            }
            Due.holds("no package", !line.startsWith("package"));
            Due.holds("only plain signs in " + line, line.chars().allMatch(sign -> sign > 0 && sign < 128));
        }
        int long60 = 0;
        int length = 0;
        for (String line : bare.split("\n")) {
            length = line.matches(" {4,8}(public|private|int|void|boolean|static|Round|[A-Z]\\w*)\\b.*\\) \\{") ? 0 : length + 1;
            long60 += line.matches(" {4,8}\\}") && length > 60 ? 1 : 0;
        }
        Due.is("methods above sixty lines", long60, 0);
    }
}
