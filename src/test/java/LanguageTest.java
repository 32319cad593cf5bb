import java.io.IOException;
import java.lang.reflect.Constructor;
import java.lang.reflect.Field;
import java.lang.reflect.Method;
import java.lang.reflect.Modifier;
import java.nio.file.Files;
import java.nio.file.Path;
import java.util.Set;
import java.util.TreeSet;
import java.util.regex.Matcher;
import java.util.regex.Pattern;

/** The public face, and those rules of LANGUAGE.md that can be read from the source and the compiled class. */
public final class LanguageTest {
    private static final Checks CHECK = new Checks();
    private static final String[] FACE = {
        "int state(int)", "int wig(int,int)", "int judge(int,int)", "int trial(int,int)",
        "int rule(int,int,int,int)", "boolean set(int,int,int)", "int tries(int,int)", "boolean act(int,int,int)",
        "int years(int)", "int feed(int,int,int,int,int)", "boolean end(int)", "int text(int)", "int fault(int)",
        "int of(int,int)", "int ruleOf(int,int,int)", "int who(int,int)", "int trialOf(int,int)",
        "int book(int,int)", "int goes(int,int)", "int would(int,int)", "int forum(int,int)", "int combs(int,int)",
        "int alike(int,int)", "int heir(int,int)", "int kin(int,int)", "int saves(int,int)", "int panels(int,int)",
        "int trait(int,int,boolean)", "int whose(int)", "int cite(int,int)", "int chain(int)",
        "boolean parcel(int,int,int)", "int cut(int)", "int hard(int,int)", "int hears(int)", "int game(int)",
        "boolean undo()", "boolean image(boolean)", "int look(int)"};

    public static void main(String[] args) throws IOException {
        faceIsJustThat();
        insideIsStatic();
        String source = Files.readString(Path.of(args.length > 0 ? args[0] : "src/main/java/WornWigs.java"));
        sourceKeepsToTheRules(source);
        methodsStayShort(source);
        CHECK.end();
    }

    private static String signature(Method m) {
        StringBuilder s = new StringBuilder(m.getReturnType().getSimpleName()).append(' ').append(m.getName()).append('(');
        for (Class<?> c : m.getParameterTypes()) {
            s.append(s.charAt(s.length() - 1) == '(' ? "" : ",").append(c.getSimpleName());
        }
        return s.append(')').toString();
    }

    private static void faceIsJustThat() {
        Set<String> seen = new TreeSet<>();
        Set<String> names = new TreeSet<>();
        for (Method m : WornWigs.class.getDeclaredMethods()) {
            if (!Modifier.isPrivate(m.getModifiers())) {
                CHECK.due("public: " + m, true, Modifier.isPublic(m.getModifiers()) && !Modifier.isStatic(m.getModifiers()));
                seen.add(signature(m));
                names.add(m.getName());
            }
        }
        CHECK.due("the face: " + seen, true, seen.equals(new TreeSet<>(Set.of(FACE))));
        for (Field f : WornWigs.class.getDeclaredFields()) {
            boolean isNone = f.getName().equals("NONE") && Modifier.isPublic(f.getModifiers());
            CHECK.due("field " + f, true, isNone || Modifier.isPrivate(f.getModifiers()));
        }
        Constructor<?>[] made = WornWigs.class.getDeclaredConstructors();
        CHECK.due("constructors", 1, made.length);
        CHECK.due("its parameters", 0, made[0].getParameterCount());
        CHECK.due("final", true, Modifier.isFinal(WornWigs.class.getModifiers()));
        hiddenNamesDiffer(WornWigs.class, names);
        for (Class<?> c : WornWigs.class.getDeclaredClasses()) {
            hiddenNamesDiffer(c, names);
        }
    }

    private static void hiddenNamesDiffer(Class<?> c, Set<String> names) {
        for (Method m : c.getDeclaredMethods()) {
            boolean hidden = c != WornWigs.class || Modifier.isPrivate(m.getModifiers());
            CHECK.due(m + " bears a name of the face", false, hidden && names.contains(m.getName()));
            CHECK.due(m + " takes seven at most", true, m.getParameterCount() <= 7);
        }
    }

    private static void insideIsStatic() {
        Class<?>[] inside = WornWigs.class.getDeclaredClasses();
        CHECK.due("some twelve classes", true, 1 + inside.length <= 12);
        for (Class<?> c : inside) {
            CHECK.due(c + " is static", true, Modifier.isStatic(c.getModifiers()));
            int fields = 0;
            for (Field f : c.getDeclaredFields()) {
                boolean isStatic = Modifier.isStatic(f.getModifiers());
                CHECK.due(f + " is final if static", true, !isStatic || Modifier.isFinal(f.getModifiers()));
                fields += isStatic ? 0 : 1;
            }
            CHECK.due(c + " has some twenty fields", true, fields <= 20);
        }
    }

    private static void sourceKeepsToTheRules(String source) {
        String code = source.replaceAll("(?s)/\\*.*?\\*/", "").replaceAll("//[^\n]*", "")
                .replaceAll("\"[^\"\n]*\"", "\"\"").replaceAll("'.'", "' '");
        String[] words = {"throw", "throws", "try", "catch", "synchronized", "assert", "instanceof", "package", "import java.io",
            "System.out", "System.exit", "Random", "Thread", "HashMap", "Object", "var", "yield", "protected", "Exact"};
        for (String word : words) {
            CHECK.due("the word " + word, false, Pattern.compile("\\b" + Pattern.quote(word) + "\\b").matcher(code).find());
        }
        CHECK.due("an arrow", false, code.contains("->"));
        CHECK.due("a method reference", false, code.contains("::"));
        CHECK.due("texts joined by +", false, Pattern.compile("\"\\s*\\+|\\+\\s*\"").matcher(code).find());
        Matcher imports = Pattern.compile("import ([^;]+);").matcher(code);
        while (imports.find()) {
            CHECK.due("import " + imports.group(1), true, imports.group(1).equals("java.util.Arrays"));
        }
        for (int i = 0; i < source.length(); i++) {
            if (source.charAt(i) > 127) {
                CHECK.fail("a sign above 127 at " + i);
            }
        }
    }

    private static void methodsStayShort(String source) {
        String[] lines = source.split("\n");
        int from = -1;
        for (int i = 0; i < lines.length; i++) {
            boolean opens = lines[i].matches(" {4,8}[^ ].*\\) \\{") && !lines[i].matches(" *(if|for|while|switch).*");
            if (opens) {
                from = i;
            }
            if (from >= 0 && lines[i].equals(lines[from].replaceAll("\\S.*", "") + "}")) {
                CHECK.due("lines of " + lines[from].trim(), true, i - from + 1 <= 60);
                from = -1;
            }
        }
    }
}
