import java.lang.reflect.Constructor;
import java.lang.reflect.Field;
import java.lang.reflect.Method;
import java.lang.reflect.Modifier;
import java.nio.file.Files;
import java.nio.file.Path;
import java.util.ArrayList;
import java.util.List;
import java.util.Set;
import java.util.TreeSet;
import java.util.regex.Matcher;
import java.util.regex.Pattern;

/** The public face, and those rules of LANGUAGE.md that can be seen without reading. */
public final class FaceTest {
    private static final String[] FACE = {
        "int feed(int,int,int,int,int)", "boolean end(int)", "int town()", "int fault(int)", "int has(int)",
        "int letter(int,int,int)", "int street(int,int)", "int way(int,int)", "int thing(int,int)", "int step(int,int)",
        "int year(int)", "int goes(int,int)", "int wall()", "int away(int)", "int by(int)", "int seats(int)",
        "int later(int,int)", "int missed(int)", "int held()", "int half()", "int filled(int)", "int filling(int,int)",
        "int asked(int,int)", "int years(int)", "int chance(int)", "boolean shut(int,int)", "boolean move(int,int)",
        "boolean teach(int,int)", "boolean forget()", "boolean undo()", "boolean seed(int)", "int kept(int,int)",
        "int image()", "int octet(int)", "boolean on()", "int status(int)"
    };
    private static final String[] FORBIDDEN = {
        "throw", "try", "catch", "synchronized", "assert", "->", "::", "Exact", "hashCode", "toString", "System.out",
        "Random", "Thread", "import java.io", "import java.nio", "String.format", "float", "double", "var "
    };

    public static void main(String[] args) throws Exception {
        checkMembers();
        checkClasses();
        checkSource();
        Bench.finish();
    }

    private static void checkMembers() throws Exception {
        Set<String> open = new TreeSet<>();
        Set<String> hidden = new TreeSet<>();
        for (Method m : GreyRoute.class.getDeclaredMethods()) {
            if (Modifier.isPrivate(m.getModifiers())) {
                hidden.add(m.getName());
                continue;
            }
            List<String> types = new ArrayList<>();
            for (Class<?> type : m.getParameterTypes()) {
                types.add(type.getSimpleName());
            }
            open.add(m.getReturnType().getSimpleName() + " " + m.getName() + "(" + String.join(",", types) + ")");
            Bench.due(m.getName() + " is public", Modifier.isPublic(m.getModifiers()), true);
            Bench.due(m.getName() + " is static", Modifier.isStatic(m.getModifiers()), false);
        }
        Bench.dueText("the methods", open.toString(), new TreeSet<>(List.of(FACE)).toString());
        for (String line : FACE) {
            String name = line.substring(line.indexOf(' ') + 1, line.indexOf('('));
            Bench.due("a private method is called " + name, hidden.contains(name), false);
        }
        for (Field f : GreyRoute.class.getDeclaredFields()) {
            Bench.due(f.getName() + " is private", Modifier.isPrivate(f.getModifiers()), !f.getName().equals("NONE"));
        }
        Bench.due("NONE", GreyRoute.NONE, -1);
        Bench.due("NONE is public", Modifier.isPublic(GreyRoute.class.getDeclaredField("NONE").getModifiers()), true);
        Constructor<?>[] made = GreyRoute.class.getDeclaredConstructors();
        Bench.due("constructors", made.length, 1);
        Bench.due("of how many parameters", made[0].getParameterCount(), 0);
        Bench.due("the constructor is public", Modifier.isPublic(made[0].getModifiers()), true);
        Bench.due("the class is public and final", GreyRoute.class.getModifiers(), Modifier.PUBLIC | Modifier.FINAL);
    }

    private static void checkClasses() {
        Class<?>[] inside = GreyRoute.class.getDeclaredClasses();
        Bench.due("too many classes", inside.length + 1 > 12, false);
        for (Class<?> c : inside) {
            Bench.due(c.getSimpleName() + " is static", Modifier.isStatic(c.getModifiers()), true);
            int fields = 0;
            for (Field f : c.getDeclaredFields()) {
                if (!Modifier.isStatic(f.getModifiers())) {
                    fields++;
                } else {
                    Bench.due(f.getName() + " is final", Modifier.isFinal(f.getModifiers()), true);
                }
            }
            Bench.due(c.getSimpleName() + " has more than 20 fields", fields > 20, false);
            for (Method m : c.getDeclaredMethods()) {
                for (String line : FACE) {
                    Bench.due(c.getSimpleName() + "." + m.getName() + " is a name of the face", line.contains(" " + m.getName() + "("), false);
                }
                Bench.due(m.getName() + " has more than 7 parameters", m.getParameterCount() > 7, false);
            }
        }
    }

    private static void checkSource() throws Exception {
        Path file = Path.of(System.getProperty("greyroute.root", "."), "src/main/java/GreyRoute.java");
        String source = Files.readString(file);
        String code = source.replaceAll("(?s)/\\*.*?\\*/", "").replaceAll("//[^\n]*", "").replaceAll("\"[^\"]*\"", "\"\"");
        for (String word : FORBIDDEN) {
            Pattern p = Pattern.compile(word.matches("[a-z]+") ? "\\b" + word + "\\b" : Pattern.quote(word));
            Bench.due("\"" + word + "\" is in the code", p.matcher(code).find(), false);
        }
        Matcher imports = Pattern.compile("import ([\\w.]+);").matcher(code);
        while (imports.find()) {
            Bench.due("import " + imports.group(1), imports.group(1).matches("java\\.util\\.(Arrays|ArrayList|List|Iterator)"), true);
        }
        checkLengths(source.split("\n"));
        Bench.due("signs beyond 127", source.chars().anyMatch(c -> c > 127), false);
        Bench.due("a package line", code.contains("package "), false);
        Bench.due("a text joined by +", code.matches("(?s).*(\"\"\\s*\\+|\\+\\s*\"\").*"), false);
    }

    /** A method ends at the first closing brace that stands as far in as its head does. */
    private static void checkLengths(String[] lines) {
        for (int i = 0; i < lines.length; i++) {
            boolean isHead = lines[i].matches(" {4,8}[A-Za-z][\\w\\[\\] ]*\\([^()]*\\) \\{");
            String end = lines[i].replaceAll("\\S.*", "}");
            for (int k = i + 1; isHead && k < lines.length; k++) {
                if (lines[k].equals(end)) {
                    Bench.due("lines of " + lines[i].trim() + ", more than 60", k - i > 60, false);
                    break;
                }
            }
        }
    }
}
