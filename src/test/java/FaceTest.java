import java.lang.reflect.Constructor;
import java.lang.reflect.Field;
import java.lang.reflect.Method;
import java.lang.reflect.Modifier;
import java.nio.file.Files;
import java.nio.file.Path;
import java.util.ArrayList;
import java.util.List;
import java.util.Map;
import java.util.Set;
import java.util.TreeMap;
import java.util.TreeSet;
import java.util.regex.Matcher;
import java.util.regex.Pattern;

/** The public face, and the rules of LANGUAGE.md that a look at the source can tell. */
public final class FaceTest {
    private static final Check check = new Check();
    private static final String[] FACE = {
        "int type(long,int)", "int clear()", "int rules()", "int due(int,int)", "int pay(int,int,int,int)",
        "int firm(int,int,int,int)", "int slip(int,int,int)", "int could(int,int)", "int owed(int,int,int)",
        "int stands(int,int)", "int span(int,int,int,int)", "int settles(int,int,int)", "int tells(int,int)",
        "int debt(int,int)", "int hold(int,int,int,int)", "int set(int)", "int about(int,int)", "int right(int,int)",
        "int place(int,int,int)", "int letter(int)", "int post(int,int)", "int call(int,int)", "int day()",
        "int weight(int,int,int)", "int keep(int)", "int back(int)", "int count(int)", "long trace()"};
    private static final String[] FORBIDDEN = {"throw", "throws", "try", "catch", "synchronized", "assert", "import",
        "package", "->", "::", "System.currentTimeMillis", "System.nanoTime", "Random", "Exact", "protected",
        "hashCode", "toString", "volatile", "native", "float", "double", "var"};

    public static void main(String[] args) throws Exception {
        face();
        fields();
        String source = Files.readString(Path.of("src/main/java/LetterDebts.java"));
        source(source);
        calls(code(source));
        check.end();
    }

    private static boolean hidden(int modifiers) {
        return Modifier.isPrivate(modifiers);
    }

    private static void face() {
        Set<String> open = new TreeSet<>();
        Set<String> names = new TreeSet<>();
        Set<String> hiddenNames = new TreeSet<>();
        for (Method m : LetterDebts.class.getDeclaredMethods()) {
            if (hidden(m.getModifiers())) {
                hiddenNames.add(m.getName());
                continue;
            }
            List<String> types = new ArrayList<>();
            for (Class<?> c : m.getParameterTypes()) {
                types.add(c.getName());
            }
            open.add(m.getReturnType() + " " + m.getName() + "(" + String.join(",", types) + ")");
            names.add(m.getName());
            check.holds(m + " is public and no more", m.getModifiers() == Modifier.PUBLIC);
        }
        check.holds("the methods " + open, open.equals(new TreeSet<>(List.of(FACE))));
        for (Class<?> inside : LetterDebts.class.getDeclaredClasses()) {
            check.holds(inside + " is static", Modifier.isStatic(inside.getModifiers()));
            check.holds(inside + " is not open", !Modifier.isPublic(inside.getModifiers()));
            for (Method m : inside.getDeclaredMethods()) {
                hiddenNames.add(m.getName());
            }
        }
        hiddenNames.retainAll(names);
        check.holds("names of public methods again: " + hiddenNames, hiddenNames.isEmpty());
        Constructor<?>[] makers = LetterDebts.class.getDeclaredConstructors();
        check.holds("one public constructor", makers.length == 1 && makers[0].getModifiers() == Modifier.PUBLIC
            && makers[0].getParameterCount() == 0);
        check.holds("public final class", LetterDebts.class.getModifiers() == (Modifier.PUBLIC | Modifier.FINAL));
        Set<String> constants = new TreeSet<>();
        for (Field f : LetterDebts.class.getDeclaredFields()) {
            if (!hidden(f.getModifiers())) {
                constants.add(f.getName());
            }
            check.holds(f + ": static is final", !Modifier.isStatic(f.getModifiers()) || Modifier.isFinal(f.getModifiers()));
        }
        check.holds("the constants " + constants, constants.equals(Set.of("BAD", "STATE", "FULL", "NONE")));
        check.due("BAD", LetterDebts.BAD, -1);
        check.due("STATE", LetterDebts.STATE, -2);
        check.due("FULL", LetterDebts.FULL, -3);
        check.due("NONE", LetterDebts.NONE, -9);
    }

    /** The types that rule 3 leaves, as far as the class needs them; static fields are constants (rule 5). */
    private static void fields() {
        List<Class<?>> classes = new ArrayList<>(List.of(LetterDebts.class.getDeclaredClasses()));
        classes.add(LetterDebts.class);
        for (Class<?> c : classes) {
            int own = 0;
            for (Field f : c.getDeclaredFields()) {
                Class<?> part = f.getType();
                int dimensions = 0;
                while (part.isArray()) {
                    part = part.getComponentType();
                    dimensions++;
                }
                boolean number = part.isPrimitive();
                boolean mine = classes.contains(part);
                check.holds(f + " has a type that may be", number && dimensions <= 2 || mine && dimensions <= 1);
                if (Modifier.isStatic(f.getModifiers())) {
                    check.holds(f + " is a constant", Modifier.isFinal(f.getModifiers()) && number && dimensions <= 1);
                } else {
                    own++;
                }
            }
            check.holds(c + " has some twenty fields at most: " + own, own <= 20);
        }
    }

    /** Calls go at most eight deep, a method that calls itself counted by its three KINDS (rules 8 and 11). */
    private static void calls(String code) {
        Map<String, Set<String>> called = new TreeMap<>();
        Matcher m = Pattern.compile("\\n( +)[A-Za-z][A-Za-z\\[\\] ]* (\\w+)\\([^()]*\\) \\{\\n(.*?)\\n\\1\\}", Pattern.DOTALL).matcher(code);
        while (m.find()) {
            Matcher in = Pattern.compile("\\b(\\w+)\\(").matcher(m.group(3));
            Set<String> names = called.computeIfAbsent(m.group(2), k -> new TreeSet<>());
            while (in.find()) {
                names.add(in.group(1));
            }
        }
        for (String name : called.keySet()) {
            int deep = deep(name, called, new ArrayList<>());
            check.holds(name + " goes " + deep + " deep", deep <= 8);
        }
        check.holds("calls were seen", called.get("slip").contains("lookAt"));
        check.holds("weigh alone calls itself, and takeOver of parts", called.entrySet().stream()
            .filter(e -> e.getValue().contains(e.getKey())).map(Map.Entry::getKey).toList().equals(List.of("takeOver", "weigh")));
    }

    private static int deep(String name, Map<String, Set<String>> called, List<String> open) {
        int more = 0;
        for (String next : called.get(name)) {
            if (called.containsKey(next) && !next.equals(name)) {
                check.holds(next + " is not open already: " + open, !open.contains(next));
                List<String> now = new ArrayList<>(open);
                now.add(next);
                more = Math.max(more, open.contains(next) ? 0 : deep(next, called, now));
            }
        }
        return 1 + more + (name.equals("weigh") ? 2 : name.equals("takeOver") ? 1 : 0);
    }

    /** The source without comments and without what stands in texts. */
    private static String code(String source) {
        String code = Pattern.compile("/\\*.*?\\*/", Pattern.DOTALL).matcher(source).replaceAll("");
        return code.replaceAll("//[^\n]*", "").replaceAll("\"[^\"\n]*\"", "\"\"");
    }

    private static void source(String source) {
        String code = code(source);
        for (String word : FORBIDDEN) {
            boolean letters = Character.isLetter(word.charAt(0));
            Pattern p = Pattern.compile(letters ? "\\b" + Pattern.quote(word) + "\\b" : Pattern.quote(word));
            check.holds("no " + word, !p.matcher(code).find());
        }
        check.holds("no static block", !Pattern.compile("static\\s*\\{").matcher(code).find());
        check.holds("bytes 1 to 127 alone", source.chars().allMatch(c -> c < 128));
        Matcher m = Pattern.compile("\\n( +)[A-Za-z][A-Za-z\\[\\] ]*\\(([^()]*)\\) \\{\\n.*?\\n\\1\\}", Pattern.DOTALL).matcher(code);
        int methods = 0;
        while (m.find()) {
            methods++;
            check.holds("at most 60 lines: " + m.group().lines().skip(1).findFirst().orElse(""), m.group().lines().count() <= 60);
            check.holds("at most seven parameters", m.group(2).split(",").length <= 7);
        }
        check.holds("methods were seen", methods > 60);
        check.holds("at most twelve classes", LetterDebts.class.getDeclaredClasses().length < 12);
    }
}
