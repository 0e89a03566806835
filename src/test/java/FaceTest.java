import java.lang.reflect.Constructor;
import java.lang.reflect.Field;
import java.lang.reflect.Method;
import java.lang.reflect.Modifier;
import java.nio.file.Files;
import java.nio.file.Path;
import java.util.ArrayList;
import java.util.List;
import java.util.Set;
import java.util.TreeSet;
import java.util.regex.Matcher;
import java.util.regex.Pattern;

/** The public face, and the rules of LANGUAGE.md that a look at the source can tell. */
public final class FaceTest {
    private static final Check check = new Check();
    private static final String[] FACE = {
        "int type(long,int)", "int clear()", "int rules()", "int due(int,int)", "int pay(int,int,int,int)",
        "int firm(int,int,int,int)", "int slip(int,int,int)", "int could(int,int)", "int owed(int,int,int)",
        "int stands(int,int)", "int span(int,int,int,int)", "int settles(int,int,int)", "int tells(int,int)",
        "int debt(int,int)", "int hold(int,int,int,int)", "int set(int)", "int about(int,int)", "int right(int,int)",
        "int place(int,int,int)", "int letter(int)", "int post(int,int)", "int call(int,int)", "int day()",
        "int weight(int,int,int)", "int keep(int)", "int back(int)", "int count(int)", "long trace()"};
    private static final String[] FORBIDDEN = {"throw", "throws", "try", "catch", "synchronized", "assert", "import",
        "package", "->", "::", "System.currentTimeMillis", "System.nanoTime", "Random", "Exact", "protected",
        "hashCode", "toString", "volatile", "native", "float", "double", "var"};

    public static void main(String[] args) throws Exception {
        face();
        source(Files.readString(Path.of("src/main/java/LetterDebts.java")));
        check.end();
    }

    private static boolean hidden(int modifiers) {
        return Modifier.isPrivate(modifiers);
    }

    private static void face() {
        Set<String> open = new TreeSet<>();
        Set<String> names = new TreeSet<>();
        Set<String> hiddenNames = new TreeSet<>();
        for (Method m : LetterDebts.class.getDeclaredMethods()) {
            if (hidden(m.getModifiers())) {
                hiddenNames.add(m.getName());
                continue;
            }
            List<String> types = new ArrayList<>();
            for (Class<?> c : m.getParameterTypes()) {
                types.add(c.getName());
            }
            open.add(m.getReturnType() + " " + m.getName() + "(" + String.join(",", types) + ")");
            names.add(m.getName());
            check.holds(m + " is public and no more", m.getModifiers() == Modifier.PUBLIC);
        }
        check.holds("the methods " + open, open.equals(new TreeSet<>(List.of(FACE))));
        for (Class<?> inside : LetterDebts.class.getDeclaredClasses()) {
            check.holds(inside + " is static", Modifier.isStatic(inside.getModifiers()));
            check.holds(inside + " is not open", !Modifier.isPublic(inside.getModifiers()));
            for (Method m : inside.getDeclaredMethods()) {
                hiddenNames.add(m.getName());
            }
        }
        hiddenNames.retainAll(names);
        check.holds("names of public methods again: " + hiddenNames, hiddenNames.isEmpty());
        Constructor<?>[] makers = LetterDebts.class.getDeclaredConstructors();
        check.holds("one public constructor", makers.length == 1 && makers[0].getModifiers() == Modifier.PUBLIC
            && makers[0].getParameterCount() == 0);
        check.holds("public final class", LetterDebts.class.getModifiers() == (Modifier.PUBLIC | Modifier.FINAL));
        Set<String> constants = new TreeSet<>();
        for (Field f : LetterDebts.class.getDeclaredFields()) {
            if (!hidden(f.getModifiers())) {
                constants.add(f.getName());
            }
            check.holds(f + ": static is final", !Modifier.isStatic(f.getModifiers()) || Modifier.isFinal(f.getModifiers()));
        }
        check.holds("the constants " + constants, constants.equals(Set.of("BAD", "STATE", "FULL", "NONE")));
        check.due("BAD", LetterDebts.BAD, -1);
        check.due("STATE", LetterDebts.STATE, -2);
        check.due("FULL", LetterDebts.FULL, -3);
        check.due("NONE", LetterDebts.NONE, -9);
    }

    private static void source(String source) {
        String code = Pattern.compile("/\\*.*?\\*/", Pattern.DOTALL).matcher(source).replaceAll("");
        code = code.replaceAll("//[^\n]*", "").replaceAll("\"[^\"\n]*\"", "\"\"");
        for (String word : FORBIDDEN) {
            boolean letters = Character.isLetter(word.charAt(0));
            Pattern p = Pattern.compile(letters ? "\\b" + Pattern.quote(word) + "\\b" : Pattern.quote(word));
            check.holds("no " + word, !p.matcher(code).find());
        }
        check.holds("bytes 1 to 127 alone", source.chars().allMatch(c -> c < 128));
        Matcher m = Pattern.compile("\\n( +)[A-Za-z][A-Za-z\\[\\] ]*\\(([^()]*)\\) \\{\\n.*?\\n\\1\\}", Pattern.DOTALL).matcher(code);
        int methods = 0;
        while (m.find()) {
            methods++;
            check.holds("at most 60 lines: " + m.group().lines().skip(1).findFirst().orElse(""), m.group().lines().count() <= 60);
            check.holds("at most seven parameters", m.group(2).split(",").length <= 7);
        }
        check.holds("methods were seen", methods > 60);
        check.holds("at most twelve classes", LetterDebts.class.getDeclaredClasses().length < 12);
    }
}
