import java.io.IOException;
import java.lang.reflect.Constructor;
import java.lang.reflect.Field;
import java.lang.reflect.Method;
import java.lang.reflect.Modifier;
import java.nio.file.Files;
import java.nio.file.Path;
import java.util.ArrayList;
import java.util.Arrays;
import java.util.HashSet;
import java.util.List;
import java.util.Set;
import java.util.TreeSet;
import java.util.regex.Matcher;
import java.util.regex.Pattern;

/** The face of the class, and what of ../shared/LANGUAGE.md can be looked up in its text. */
public final class LanguageTest {
    private static final Check check = new Check();

    private static final String[] FACE = {
        "before(int,int)", "bound(int,int,int)", "cell(int,int,int)", "clash()", "count(int)", "days(int,int,int)",
        "differ(int,int)", "fault(int)", "feed(int,long)", "found(int,int)", "hand(int,int,int)", "jumps(int)",
        "knows(int,int,boolean)", "lay(int,int,int)", "letter(int,int,int,int)", "lived(int,int,int)", "loose()", "lose(int)",
        "means(int,int)", "note(int,int)", "order(int,int)", "person(int,int)", "post(int,int,int,int)", "print(int,int,int)",
        "printed(int,int,int,int)", "read(int,int,int,int)", "reads(int,int,int)", "span(int,int)", "taken(int,int)",
        "text(int)", "told(int,int)", "tray(int,int)", "week(int,int)", "who(int,int)", "words(int)",
    };

    public static void main(String[] args) throws IOException, ReflectiveOperationException {
        face();
        members();
        String source = Files.readString(Path.of("src/main/java/LetterDrawer.java"));
        words(source);
        calls(source);
        methodLengths(source);
        check.end();
    }

    private static void face() throws ReflectiveOperationException {
        Set<String> found = new TreeSet<>();
        for (Method method : LetterDrawer.class.getDeclaredMethods()) {
            if (Modifier.isPublic(method.getModifiers())) {
                List<String> types = new ArrayList<>();
                for (Class<?> type : method.getParameterTypes()) {
                    types.add(type.getName());
                }
                found.add(method.getName() + "(" + String.join(",", types) + ")");
                check.holds(method.getName() + " answers an int", method.getReturnType() == int.class);
                check.holds(method.getName() + " is not static", !Modifier.isStatic(method.getModifiers()));
            }
        }
        check.holds("the public methods: " + found, found.equals(new TreeSet<>(Arrays.asList(FACE))));
        check.holds("the class is public and final", LetterDrawer.class.getModifiers() == (Modifier.PUBLIC | Modifier.FINAL));
        check.due("NONE", LetterDrawer.NONE, -1);
        check.due("BAD", LetterDrawer.BAD, -2);
        check.due("STATE", LetterDrawer.STATE, -3);
        check.due("FULL", LetterDrawer.FULL, -4);
    }

    private static void members() {
        Set<String> constants = new HashSet<>(Arrays.asList("NONE", "BAD", "STATE", "FULL"));
        for (Field field : LetterDrawer.class.getDeclaredFields()) {
            boolean isConstant = constants.remove(field.getName());
            check.holds(field.getName() + " is private", isConstant != Modifier.isPrivate(field.getModifiers()));
        }
        check.holds("all constants stand", constants.isEmpty());
        Constructor<?>[] makers = LetterDrawer.class.getDeclaredConstructors();
        check.holds("one public constructor", makers.length == 1 && makers[0].getParameterCount() == 0
            && Modifier.isPublic(makers[0].getModifiers()));
        Set<String> names = new HashSet<>();
        for (String method : FACE) {
            names.add(method.substring(0, method.indexOf('(')));
        }
        Class<?>[] inner = LetterDrawer.class.getDeclaredClasses();
        check.holds("some twelve classes", inner.length <= 11);
        for (Method method : LetterDrawer.class.getDeclaredMethods()) {
            check.holds(method + " is public or private", Modifier.isPublic(method.getModifiers())
                || Modifier.isPrivate(method.getModifiers()) && !names.contains(method.getName()));
        }
        for (Class<?> c : inner) {
            check.holds(c + " is static and private", Modifier.isStatic(c.getModifiers()) && Modifier.isPrivate(c.getModifiers()));
            for (Method method : c.getDeclaredMethods()) {
                check.holds(method + " has a name of its own", !names.contains(method.getName()));
                check.holds(method + " takes seven at most", method.getParameterCount() <= 7);
            }
            fields(c);
        }
        fields(LetterDrawer.class);
    }

    private static void fields(Class<?> c) {
        int own = 0;
        for (Field field : c.getDeclaredFields()) {
            boolean isStatic = Modifier.isStatic(field.getModifiers());
            own += isStatic ? 0 : 1;
            check.holds(field + " is final if static", !isStatic || Modifier.isFinal(field.getModifiers()));
        }
        check.holds(c + " has some twenty fields", own <= 20);
    }

    private static void words(String source) {
        String code = source.replaceAll("(?s)/\\*.*?\\*/", "").replaceAll("//[^\n]*", "");
        for (String word : new String[] {"throw", "try", "catch", "synchronized", "assert", "instanceof", "import", "package",
            "float", "double", "Exact", "lambda", "Object", "String", "null", "protected"}) {
            check.holds("no " + word, !Pattern.compile("\\b" + word + "\\b|" + word + "\\(").matcher(code).find());
        }
        check.holds("no lambda, no method reference", !code.contains("->") && !code.contains("::"));
        check.holds("no open loop", !Pattern.compile("while\\s*\\(true\\)|for\\s*\\(;;\\)|\\bwhile\\b").matcher(code).find());
        check.holds("plain signs", source.chars().allMatch(c -> c == '\n' || c >= 32 && c < 127));
    }

    /** Of the library only what stands in LANGUAGE.md. */
    private static void calls(String source) {
        Set<String> used = new TreeSet<>();
        Matcher matcher = Pattern.compile("\\b(Integer|Long|Math|System|Arrays|Byte|Character|Boolean)\\.\\w+").matcher(source);
        while (matcher.find()) {
            used.add(matcher.group());
        }
        used.removeAll(Arrays.asList("Math.min", "Math.max", "Math.abs", "Math.floorMod", "Integer.bitCount", "Integer.MAX_VALUE"));
        check.holds("no other calls: " + used, used.isEmpty());
    }

    private static void methodLengths(String source) {
        int start = -1, line = 0;
        for (String text : source.split("\n")) {
            line++;
            if (text.matches(" {4}( {4})?[a-z].*\\) \\{")) {
                start = line;
            } else if (text.matches(" {4}( {4})?\\}") && start > 0) {
                check.holds("a short method at line " + start, line - start <= 60);
                start = -1;
            }
        }
    }
}
