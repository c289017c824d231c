import java.lang.reflect.Constructor;
import java.lang.reflect.Field;
import java.lang.reflect.Method;
import java.lang.reflect.Modifier;
import java.nio.charset.StandardCharsets;
import java.nio.file.Files;
import java.nio.file.Path;
import java.util.Set;
import java.util.TreeSet;
import java.util.regex.Matcher;
import java.util.regex.Pattern;

/** Rules of LANGUAGE.md that reflection and the words of the file can tell. */
public final class LanguageTest {
    private static final Check CHECK = new Check();
    private static final String[] FACE = {
        "int letter(int)", "int court()", "int fact(int)", "int question(int,int)",
        "int witness(int,int)", "int asks(int,int)", "int heard(int,int)", "int sets(int)",
        "int knows(int,int)", "int turn(int,int,int)", "int empties()", "int answer(int,int,int)",
        "int fits(int)", "int jury(int)", "int sure(int)", "int next(int)",
        "int settle(int,int,int)", "int words(int,int)", "int liars()", "int clash()",
        "int trueOf(int)", "int talker()", "int betrays(int)", "long verdict(int,int)",
        "int hidden()", "int same(int)", "int implies(int,int)", "int two(int,int,int)",
        "long drawn(int,int,int,int)", "long mean(int)", "int whatIs(int,int)", "int row(int)",
        "int judge()", "int clear()", "int lots(int,int,int)", "int image()", "int on()",
        "int count(int)"
    };
    private static final String[] FORBIDDEN = {
        "throw", "throws", "try", "catch", "finally", "synchronized", "assert", "volatile",
        "native", "import", "package", "Object", "Thread", "Random", "\\w+Exact", "->", "::",
        "@\\w+", "\\+ *\"", "\" *\\+"
    };

    public static void main(String[] args) throws Exception {
        face();
        Class<?> program = JuryHearsAnswers.class;
        members(program);
        CHECK.that("few classes", program.getDeclaredClasses().length <= 11);
        for (Class<?> inside : program.getDeclaredClasses()) {
            int modifiers = inside.getModifiers();
            CHECK.that(inside + " is static", Modifier.isStatic(modifiers));
            CHECK.that(inside + " is not open",
                    !Modifier.isPublic(modifiers) && !Modifier.isProtected(modifiers));
            members(inside);
        }
        words(Files.readString(Path.of(System.getProperty("program")),
                StandardCharsets.ISO_8859_1));
        CHECK.close();
    }

    private static void face() {
        CHECK.about("the face");
        Class<?> program = JuryHearsAnswers.class;
        CHECK.that("public and final", Modifier.isPublic(program.getModifiers())
                && Modifier.isFinal(program.getModifiers()));
        Set<String> found = new TreeSet<>();
        for (Method method : program.getDeclaredMethods()) {
            if (!Modifier.isPrivate(method.getModifiers())) {
                CHECK.that(method + " is public", Modifier.isPublic(method.getModifiers())
                        && !Modifier.isStatic(method.getModifiers()));
                StringBuilder types = new StringBuilder();
                for (Class<?> type : method.getParameterTypes()) {
                    types.append(types.length() == 0 ? "" : ",").append(type.getName());
                }
                found.add(method.getReturnType() + " " + method.getName() + "(" + types + ")");
            }
        }
        CHECK.that("the methods of the document, no others: " + found,
                found.equals(new TreeSet<>(Set.of(FACE))));
        Constructor<?>[] constructors = program.getDeclaredConstructors();
        CHECK.that("one constructor", constructors.length == 1
                && Modifier.isPublic(constructors[0].getModifiers())
                && constructors[0].getParameterCount() == 0);
        for (Field field : program.getDeclaredFields()) {
            CHECK.that(field + " is private", Modifier.isPrivate(field.getModifiers()));
        }
    }

    private static void members(Class<?> one) {
        CHECK.about(one.getName());
        Set<String> names = new TreeSet<>();
        for (String call : FACE) {
            names.add(call.substring(call.indexOf(' ') + 1, call.indexOf('(')));
        }
        int fields = 0;
        for (Field field : one.getDeclaredFields()) {
            boolean isStatic = Modifier.isStatic(field.getModifiers());
            CHECK.that(field + " if static is final",
                    !isStatic || Modifier.isFinal(field.getModifiers()));
            fields += isStatic ? 0 : 1;
        }
        CHECK.that("few fields", fields <= 20);
        for (Method method : one.getDeclaredMethods()) {
            CHECK.that(method + " takes few", method.getParameterCount() <= 7);
            CHECK.that(method + " has a name of its own",
                    Modifier.isPublic(method.getModifiers()) || !names.contains(method.getName()));
        }
    }

    private static void words(String text) {
        CHECK.about("the words");
        for (int i = 0; i < text.length(); i++) {
            if (text.charAt(i) > 126) {
                CHECK.that("a sign above 126 at " + i, false);
            }
        }
        String bare = text.replaceAll("(?s)/\\*.*?\\*/", "").replaceAll("//[^\n]*", "");
        for (String word : FORBIDDEN) {
            boolean isWord = word.matches("\\w.*");
            String whole = isWord ? "\\b" + word + "\\b" : word;
            Matcher matcher = Pattern.compile(whole).matcher(bare);
            CHECK.that("no " + word, !matcher.find());
        }
        methodLengths(bare);
    }

    /** Methods of the public class stand 4 signs in, those of classes inside 8. */
    private static void methodLengths(String bare) {
        String[] lines = bare.split("\n");
        for (int i = 0; i < lines.length; i++) {
            if (lines[i].matches("( {4}| {8})[^ =;}]+ [^=;]*\\(.*") && !lines[i].contains(";")) {
                String indent = lines[i].replaceAll("\\S.*", "");
                int end = i;
                while (end < lines.length && !lines[end].equals(indent + "}")) {
                    end++;
                }
                CHECK.that("short: " + lines[i].trim(), end - i <= 60);
            }
        }
    }
}
