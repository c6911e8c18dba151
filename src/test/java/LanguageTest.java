import java.io.IOException;
import java.lang.reflect.Constructor;
import java.lang.reflect.Field;
import java.lang.reflect.Method;
import java.lang.reflect.Modifier;
import java.nio.charset.StandardCharsets;
import java.nio.file.Files;
import java.nio.file.Path;
import java.util.ArrayList;
import java.util.Arrays;
import java.util.List;
import java.util.TreeSet;
import java.util.regex.Pattern;

/** What a program can see of ../shared/LANGUAGE.md: the face, forbidden words, lengths, where objects are made. */
public final class LanguageTest {
    private static final String[] FACE = {"int feed(int,int,int,int,int)", "boolean end(int)", "int town()", "int fault(int)",
        "int has(int)", "int letter(int,int,int)", "int thing(int,int)", "int corner(int,int)", "int doing(int,int)",
        "int later(int,int)", "int when(int)", "int alike(int,int)", "int plan(int,int,int)", "int evening(int,int)",
        "long odds(int,int,int)", "int way(int,int)", "int arrive(int,int)", "int early(int)", "int see()", "int held(int)",
        "int tells(int,int)", "int minutes(int)", "int chance(int)", "int give(int,int)", "int take(int)", "boolean undo()",
        "boolean seed(int)", "int kept(int,int)", "int image()", "int octet(int)", "boolean on()", "int status(int)"};
    private static final String[] FORBIDDEN = {"\\bthrow\\b", "\\btry\\b", "\\bcatch\\b", "\\bsynchronized\\b", "\\bassert\\b",
        "->", "::", "\\bimport\\b", "\\bpackage\\b", "Exact\\b", "\\bInteger\\.parse", "\\bSystem\\.(?!arraycopy)",
        "\\bprotected\\b", "\\bvar\\b", "\\bstatic \\{"};

    private LanguageTest() {
    }

    private static String signature(Method m) {
        StringBuilder s = new StringBuilder(m.getReturnType().getSimpleName()).append(' ').append(m.getName()).append('(');
        for (Class<?> type : m.getParameterTypes()) {
            s.append(s.charAt(s.length() - 1) == '(' ? "" : ",").append(type.getSimpleName());
        }
        return s.append(')').toString();
    }

    private static void face() {
        TreeSet<String> open = new TreeSet<>();
        TreeSet<String> names = new TreeSet<>();
        for (Method m : PalmHours.class.getDeclaredMethods()) {
            if (Modifier.isPublic(m.getModifiers())) {
                open.add(signature(m));
                names.add(m.getName());
            } else {
                Check.due(m.getName() + " is private", Modifier.isPrivate(m.getModifiers()), true);
            }
        }
        Check.due("the face " + open, open.equals(new TreeSet<>(Arrays.asList(FACE))), true);
        List<Class<?>> all = new ArrayList<>(Arrays.asList(PalmHours.class.getDeclaredClasses()));
        for (Class<?> c : all) {
            Check.due(c + " is private and static", Modifier.isPrivate(c.getModifiers()) && Modifier.isStatic(c.getModifiers()), true);
            for (Method m : c.getDeclaredMethods()) {
                Check.due(m + " bears no public name", names.contains(m.getName()), false);
            }
        }
        for (Field f : PalmHours.class.getDeclaredFields()) {
            boolean open1 = f.getName().equals("NONE") && Modifier.isPublic(f.getModifiers());
            Check.due(f.getName() + " is private", open1 || Modifier.isPrivate(f.getModifiers()), true);
        }
        Constructor<?>[] made = PalmHours.class.getDeclaredConstructors();
        Check.due("one constructor", made.length == 1 && Modifier.isPublic(made[0].getModifiers()), true);
        Check.due("final", Modifier.isFinal(PalmHours.class.getModifiers()), true);
        all.add(PalmHours.class);
        Check.due("twelve classes at most", all.size() <= 12, true);
        all.forEach(LanguageTest::size);
    }

    private static void size(Class<?> c) {
        int fields = 0;
        for (Field f : c.getDeclaredFields()) {
            if (Modifier.isStatic(f.getModifiers())) {
                Check.due(f + " is final", Modifier.isFinal(f.getModifiers()), true);
            } else {
                fields++;
            }
        }
        Check.due(c + ": twenty fields at most", fields <= 20, true);
        for (Method m : c.getDeclaredMethods()) {
            Check.due(m + ": seven parameters at most", m.getParameterCount() <= 7, true);
        }
    }

    private static void text(List<String> lines) {
        int began = 0;
        for (int k = 0; k < lines.size(); k++) {
            String line = lines.get(k);
            String code = line.strip().startsWith("/**") || line.strip().startsWith("*") || line.strip().startsWith("//") ? "" : line;
            for (String word : FORBIDDEN) {
                Check.due("line " + (k + 1) + " has " + word, Pattern.compile(word).matcher(code).find(), false);
            }
            for (char sign : line.toCharArray()) {
                Check.due("line " + (k + 1) + " has sign " + (int) sign, sign >= 1 && sign <= 127, true);
            }
            boolean isField = Pattern.matches("\\s+(private )?(final )?[\\w\\[\\]]+ \\w+ = new .*;", code);
            boolean isParts = Pattern.matches("\\s+(tokens|phrases) = new .*;", code);
            Check.due("line " + (k + 1) + " makes no object in a call", code.contains("new ") && !isField && !isParts, false);
            if (Pattern.matches(" {4}( {4})?\\S.*\\) \\{", code)) {
                began = k;
            }
            if (Pattern.matches(" {4}( {4})?\\}", code)) {
                Check.due("the method up to line " + (k + 1) + " is short", k - began <= 60 || lines.get(began).contains("class"), true);
            }
        }
    }

    public static void main(String[] args) throws IOException {
        face();
        text(Files.readAllLines(Path.of("src/main/java/PalmHours.java"), StandardCharsets.UTF_8));
        Check.close();
    }
}
