import java.io.IOException;
import java.io.PrintWriter;
import java.io.StringWriter;
import java.lang.reflect.Constructor;
import java.lang.reflect.Field;
import java.lang.reflect.Method;
import java.lang.reflect.Modifier;
import java.nio.file.Files;
import java.nio.file.Path;
import java.util.ArrayList;
import java.util.HashMap;
import java.util.HashSet;
import java.util.List;
import java.util.Map;
import java.util.Set;
import java.util.TreeSet;
import java.util.regex.Matcher;
import java.util.regex.Pattern;
import java.util.spi.ToolProvider;

/** The rules of LANGUAGE.md that a program can look after. */
public final class RulesTest {
    private static final String FACE = "int status(); long top(); long bottom(); boolean tray(int,int,int);"
            + " boolean write(int,int,long); long read(int,int); boolean pour(int,int,int,int,int);"
            + " int feed(int,int,int,int,int); int street(int); int days(int); int fault(int); int told(int);"
            + " int purse(); int step(int,int); int quarrel(int,int); int grocer(int,int); int share(int,int);"
            + " int whose(int,int); int nobodys(int); int peace(); int truce(); int over(); int hopeless();"
            + " int strew(int,int); int buy(int,int,int); int sweep(int); int shovel(int,int,int); int rain();"
            + " boolean snow(int); int night(); int cat(int,int); int reaches(int); int chain(int);"
            + " int forecast(int,int,int); int soonest(int); int longest(); int fullest(); int best(int); int closest();"
            + " int level(); int thaw(int); int thawAll(); int wants(int); int cliff(); int steps(int); int value(int);"
            + " int beside(int); int ghosts(); int most(); int lack(int); int lackAt(int,int); int freed(int);"
            + " int cost(int); int dearest(int); int quiet(int,int,int); int who(int,int); boolean found(int,int);"
            + " int live(int); int lived(int); boolean odds(int,int,int); int mark(); int back()";
    private static final Class<?>[] INSIDE = SaltStreet.class.getDeclaredClasses();
    private static final Map<String, Set<String>> CALLS = new HashMap<>();

    public static void main(String[] args) throws IOException {
        theFace();
        noNameTwice();
        sizes();
        theSource(Files.readString(Path.of("src/main/java/SaltStreet.java")));
        theBytecode();
        Checks.finish();
    }

    private static void theFace() {
        Checks.due("final", Modifier.isFinal(SaltStreet.class.getModifiers()), true);
        Set<String> want = new TreeSet<>(List.of(FACE.split("; ?")));
        Set<String> got = new TreeSet<>();
        for (Method m : SaltStreet.class.getDeclaredMethods()) {
            if (Modifier.isPublic(m.getModifiers())) {
                StringBuilder s = new StringBuilder(m.getReturnType() + " " + m.getName() + "(");
                for (int i = 0; i < m.getParameterCount(); i++) {
                    s.append(i > 0 ? "," : "").append(m.getParameterTypes()[i]);
                }
                got.add(s.append(")").toString());
                Checks.due("not static: " + m, Modifier.isStatic(m.getModifiers()), false);
            } else {
                Checks.due("private: " + m, Modifier.isPrivate(m.getModifiers()), true);
            }
        }
        Checks.due("the public methods", got.toString(), want.toString());
        for (Field f : SaltStreet.class.getDeclaredFields()) {
            boolean open = f.getName().equals("NONE");
            Checks.due("field " + f, open ? Modifier.isPublic(f.getModifiers()) : Modifier.isPrivate(f.getModifiers()), true);
        }
        Constructor<?>[] makers = SaltStreet.class.getDeclaredConstructors();
        Checks.due("constructors", makers.length, 1);
        Checks.due("public constructor", Modifier.isPublic(makers[0].getModifiers()), true);
        for (Class<?> c : INSIDE) {
            Checks.due("static: " + c, Modifier.isStatic(c.getModifiers()), true);
            Checks.due("private: " + c, Modifier.isPrivate(c.getModifiers()), true);
        }
    }

    private static void noNameTwice() {
        Set<String> open = new HashSet<>();
        for (Method m : SaltStreet.class.getMethods()) {
            open.add(m.getName());
        }
        for (Method m : SaltStreet.class.getDeclaredMethods()) {
            Checks.due("name of " + m, !Modifier.isPublic(m.getModifiers()) && open.contains(m.getName()), false);
        }
        for (Class<?> c : INSIDE) {
            for (Method m : c.getDeclaredMethods()) {
                Checks.due("name of " + m, open.contains(m.getName()), false);
            }
        }
    }

    private static void sizes() {
        Checks.due("twelve classes at most", INSIDE.length + 1 <= 12, true);
        List<Class<?>> all = new ArrayList<>(List.of(INSIDE));
        all.add(SaltStreet.class);
        for (Class<?> c : all) {
            int fields = 0;
            for (Field f : c.getDeclaredFields()) {
                boolean fixed = Modifier.isStatic(f.getModifiers());
                fields += fixed ? 0 : 1;
                Checks.due("static fields are final: " + f, !fixed || Modifier.isFinal(f.getModifiers()), true);
            }
            Checks.due("some twenty fields in " + c + ", not " + fields, fields <= 21, true);
            for (Method m : c.getDeclaredMethods()) {
                Checks.due("seven parameters at most: " + m, m.getParameterCount() <= 7, true);
            }
        }
    }

    private static void theSource(String source) {
        String bare = source.replaceAll("(?s)/\\*.*?\\*/", "").replaceAll("//[^\n]*", "")
                .replaceAll("\"[^\"\n]*\"", "\"\"");
        for (String word : List.of("throw", "throws", "try", "catch", "synchronized", "assert", "import", "package",
                "Exact", "instanceof", "static \\{", "->", "::", "\"\" *\\+", "\\+ *\"\"", "while \\(true\\)")) {
            String pattern = word.matches("[a-z]+") ? "\\b" + word + "\\b" : word;
            Checks.due("no " + word, Pattern.compile(pattern).matcher(bare).find(), false);
        }
        int begin = -1;
        String[] lines = source.split("\n");
        for (int i = 0; i < lines.length; i++) {
            if (lines[i].matches(" {4,8}[a-zA-Z].*\\) \\{")) {
                begin = i;
            }
            if (begin >= 0 && lines[i].matches(" {4,8}\\}")) {
                Checks.due("sixty lines at most from line " + (begin + 1), i - begin <= 60, true);
                begin = -1;
            }
            for (char c : lines[i].toCharArray()) {
                if (c > 126) {
                    Checks.due("a plain sign in line " + (i + 1), c, ' ');
                }
            }
        }
    }

    /** Objects are made by constructors alone; calls go eight deep at most, and none in a ring. */
    private static void theBytecode() {
        List<String> words = new ArrayList<>(List.of("-c", "-p", "-cp", System.getProperty("java.class.path"), "SaltStreet"));
        for (Class<?> c : INSIDE) {
            words.add(c.getName());
        }
        StringWriter out = new StringWriter();
        PrintWriter printer = new PrintWriter(out);
        int code = ToolProvider.findFirst("javap").orElseThrow().run(printer, printer, words.toArray(new String[0]));
        Checks.due("javap", code, 0);
        readCode(out.toString());
        int deepest = 0;
        for (Method m : SaltStreet.class.getDeclaredMethods()) {
            if (Modifier.isPublic(m.getModifiers())) {
                int here = depth("SaltStreet." + m.getName(), 1);
                Checks.due(m.getName() + "() goes " + here + " deep, at most 8", here <= 8, true);
                deepest = Math.max(deepest, here);
            }
        }
        System.out.println("the deepest calls: " + deepest);
        Checks.due("some depth was seen", deepest >= 3, true);
    }

    private static void readCode(String code) {
        Pattern head = Pattern.compile("^(?:public |private |static |final )*class (\\S+) \\{");
        Pattern method = Pattern.compile("^  (?:\\S+ )*([A-Za-z$]+)\\([^)]*\\);");
        Pattern call = Pattern.compile("invoke\\w+ .*// (?:Interface)?Method (?:(\\S+)\\.)?\"?([A-Za-z<>]+)\"?:");
        String type = "";
        String at = "";
        for (String line : code.split("\n")) {
            Matcher h = head.matcher(line);
            Matcher m = method.matcher(line);
            Matcher c = call.matcher(line);
            if (h.find()) {
                type = h.group(1);
            } else if (m.find()) {
                at = type + "." + m.group(1);
                CALLS.putIfAbsent(at, new HashSet<>());
            } else if (c.find() && !at.isEmpty()) {
                CALLS.get(at).add((c.group(1) == null ? type : c.group(1)) + "." + c.group(2));
            }
            boolean making = line.matches(".*: (new|newarray|anewarray|multianewarray|invokedynamic)\\b.*");
            boolean inMaker = at.equals(type + "." + type);
            Checks.due("nothing is made in " + at, making && !inMaker, false);
        }
    }

    private static int depth(String at, int level) {
        if (level > 20) {
            return level;
        }
        int deepest = level;
        for (String next : CALLS.getOrDefault(at, Set.of())) {
            deepest = Math.max(deepest, depth(next, level + 1));
        }
        return deepest;
    }
}
