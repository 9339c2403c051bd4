import java.io.IOException;
import java.lang.reflect.Constructor;
import java.lang.reflect.Field;
import java.lang.reflect.Method;
import java.lang.reflect.Modifier;
import java.nio.file.Files;
import java.nio.file.Path;
import java.util.ArrayList;
import java.util.Arrays;
import java.util.HashSet;
import java.util.List;
import java.util.Map;
import java.util.Random;
import java.util.Set;
import java.util.TreeMap;
import java.util.TreeSet;
import java.util.regex.Matcher;
import java.util.regex.Pattern;

/** What of ../shared/LANGUAGE.md a test can see: the face, the shape, the words of the source; and that no call throws. */
public final class LanguageTest {
    private static final Checks CHECKS = new Checks("LanguageTest");
    private static final String FACE = "int status(); long top(); long bottom(); boolean tray(int,int,int); "
        + "boolean write(int,int,long); long read(int,int); boolean pour(int,int,int,int,int); int feed(int,int,int,int,int); "
        + "int district(int); int days(int); int fault(int); int many(int); int kind(int,int); int person(int,int); "
        + "int thing(int,int); int far(int,int); int copyHomes(int); int lose(int,int,int); int pass(int); int scratch(int,int); "
        + "boolean teach(int,int,boolean); int move(int,int); int come(int); int rewrite(int,int,int); boolean rule(int,int); "
        + "int soonest(int); int round(); int works(int); int needs(int); int ring(); int ending(); int endingSet(); "
        + "int couples(int,int); boolean whose(int,int,int); int laws(int,int); int lawOf(int,int,int); int hands(int,int); "
        + "int way(int,int,int); int signs(int,int); int walk(int,int); boolean share(int,int,int); int game(int,int,int); "
        + "int moveOf(int,int,int); boolean tongue(int); int live(int); int lived(int); boolean mean(int,int); int mark(); int back()";
    private static final int[] FAR = {Integer.MIN_VALUE, Integer.MIN_VALUE + 1, -65536, -2, -1, 0, 1, 2, 3, 4, 5, 6, 7, 8, 9, 10, 15, 16,
        20, 31, 32, 59, 60, 61, 63, 64, 127, 128, 255, 256, 300, 301, 900, 901, 9999, 10000, 65536, Integer.MAX_VALUE - 1,
        Integer.MAX_VALUE};

    public static void main(String[] args) throws Exception {
        face();
        shape();
        source();
        noCallThrows();
        CHECKS.end();
    }

    private static void holds(String what, boolean holds) {
        CHECKS.due(what, holds, true);
    }

    private static void face() {
        Class<?> c = ItchParish.class;
        holds("public and final", Modifier.isPublic(c.getModifiers()) && Modifier.isFinal(c.getModifiers()));
        Set<String> told = new TreeSet<>(Arrays.asList(FACE.split("; ")));
        Set<String> there = new TreeSet<>();
        Set<String> names = new HashSet<>();
        for (Method m : c.getDeclaredMethods()) {
            if (!Modifier.isPrivate(m.getModifiers())) {
                StringBuilder s = new StringBuilder(m.getReturnType() + " " + m.getName() + "(");
                for (Class<?> p : m.getParameterTypes()) {
                    s.append(s.charAt(s.length() - 1) == '(' ? "" : ",").append(p);
                }
                there.add(s.append(")").toString());
                names.add(m.getName());
            }
        }
        holds("the face: " + there, told.equals(there));
        for (Field f : c.getDeclaredFields()) {
            holds("field " + f.getName(), Modifier.isPrivate(f.getModifiers()) || f.getName().equals("NONE"));
        }
        Constructor<?>[] constructors = c.getDeclaredConstructors();
        holds("one constructor", constructors.length == 1 && Modifier.isPublic(constructors[0].getModifiers()));
        for (Method m : c.getDeclaredMethods()) {
            holds("private bears a public name: " + m.getName(), !Modifier.isPrivate(m.getModifiers()) || !names.contains(m.getName()));
        }
        for (Class<?> inside : c.getDeclaredClasses()) {
            for (Method m : inside.getDeclaredMethods()) {
                holds(inside.getName() + " bears a public name: " + m.getName(), !names.contains(m.getName()));
            }
        }
    }

    private static void shape() {
        Class<?>[] inside = ItchParish.class.getDeclaredClasses();
        holds("at most twelve classes", inside.length + 1 <= 12);
        List<Class<?>> all = new ArrayList<>(Arrays.asList(inside));
        all.add(ItchParish.class);
        List<Class<?>> plain = List.of(int.class, long.class, boolean.class, char.class, String.class);
        for (Class<?> c : all) {
            holds(c + " is static", c == ItchParish.class || Modifier.isStatic(c.getModifiers()));
            int fields = 0;
            for (Field f : c.getDeclaredFields()) {
                boolean isStatic = Modifier.isStatic(f.getModifiers());
                fields += isStatic ? 0 : 1;
                holds(c + " " + f.getName(), !isStatic || Modifier.isFinal(f.getModifiers()) && plain.contains(f.getType()));
            }
            holds(c + " has " + fields + " fields", fields <= 20);
            for (Method m : c.getDeclaredMethods()) {
                holds(c + " " + m.getName() + " has too many parameters", m.getParameterCount() <= 7);
            }
        }
    }

    private static void source() throws IOException {
        String text = Files.readString(Path.of("src/main/java/ItchParish.java"));
        holds("signs 1 to 127", text.chars().allMatch(sign -> sign >= 1 && sign <= 127));
        String code = text.replaceAll("(?s)/\\*.*?\\*/", "").replaceAll("//[^\n]*", "").replaceAll("\"[^\"\n]*\"", "\"\"");
        for (String word : new String[] {"throw", "try", "catch", "synchronized", "assert", "instanceof", "import", "package", "record",
            "float", "double", "var", "goto", "protected", "System\\.(?!arraycopy)", "->", "::", "\"\" *\\+", "\\+ *\"\"", "Exact"}) {
            boolean isThere = Pattern.compile(word.matches("[a-z]+") ? "\\b" + word + "\\b" : word).matcher(code).find();
            holds("no " + word, !isThere);
        }
        for (String line : code.split("\n")) {
            holds("made once: " + line, !line.contains("new ") || line.matches("    (    )?private final .*"));
        }
        Matcher m = Pattern.compile("\n( {4}| {8})(?! )([^\n;=]*\\b(\\w+)\\([^\n;=]*\\)) \\{\n(.*?\n)?\\1\\}", Pattern.DOTALL)
            .matcher(code);
        int methods = 0;
        Map<String, String> bodies = new TreeMap<>();
        while (m.find()) {
            methods++;
            String body = m.group(4) == null ? "" : m.group(4);
            holds("short: " + m.group(2), body.split("\n").length <= 60);
            bodies.merge(m.group(3), body, String::concat);
        }
        holds("methods seen: " + methods, methods > 150);
        for (String name : bodies.keySet()) {
            List<String> calls = deepest(name, bodies, new ArrayList<>());
            holds("at most eight deep: " + calls, calls.size() <= 8);
        }
    }

    // By names alone: methods of one name count as one, and what calls itself counts once.
    private static List<String> deepest(String name, Map<String, String> bodies, List<String> above) {
        List<String> best = List.of();
        above.add(name);
        Matcher m = Pattern.compile("\\b(\\w+)\\(").matcher(bodies.get(name));
        Set<String> called = new TreeSet<>();
        while (m.find()) {
            called.add(m.group(1));
        }
        for (String next : called) {
            if (bodies.containsKey(next) && !above.contains(next)) {
                List<String> calls = deepest(next, bodies, above);
                best = calls.size() > best.size() ? calls : best;
            }
        }
        above.remove(above.size() - 1);
        List<String> all = new ArrayList<>(List.of(name));
        all.addAll(best);
        return all;
    }

    private static void noCallThrows() throws Exception {
        Method[] methods = ItchParish.class.getDeclaredMethods();
        Arrays.sort(methods, (a, b) -> a.getName().compareTo(b.getName()));
        Random random = new Random(7);
        String people = "person a home 0 reach 0 1 2;person b home 3;person c home 59;person d home 4;person e home 4;person f home 9;";
        String district = "odds 12;arm 9;kind step 1 spot 0;kind step 3 spot 4 weight 2;kind step 9 spot 9;" + people
            + "person g home 1;thing a 0;thing b 1;thing c 2 worth 9;thing g 0;thing g 1;thing f 2;thing d 0;thing e 1;";
        for (int run = 0; run < 300; run++) {
            ItchParish x = run % 3 == 0 ? new ItchParish() : Checks.with(run % 3 == 1 ? district : district.substring(0, 140));
            if (run % 2 == 0) {
                Checks.days(x, "loop 99;any;wait 3;lose a 1;when up 3;scratch b 3;end;loop 9;end;end;");
            }
            for (int call = 0; call < 450; call++) {
                Method m = methods[random.nextInt(methods.length)];
                if (Modifier.isPublic(m.getModifiers())) {
                    Object[] values = new Object[m.getParameterCount()];
                    for (int k = 0; k < values.length; k++) {
                        Class<?> type = m.getParameterTypes()[k];
                        int far = random.nextInt(3) == 0 ? random.nextInt(8) : FAR[random.nextInt(FAR.length)];
                        values[k] = type == int.class ? (Object) far : type == long.class ? (Object) (long) far : (Object) (far > 3);
                    }
                    m.invoke(x, values);
                    holds("bottom above 0", x.bottom() > 0);
                    holds("a status", x.status() >= 0 && x.status() <= 11);
                }
            }
        }
    }
}
