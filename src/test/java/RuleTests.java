import java.lang.management.ManagementFactory;
import java.lang.reflect.Constructor;
import java.lang.reflect.Field;
import java.lang.reflect.Method;
import java.lang.reflect.Modifier;
import java.nio.file.Files;
import java.nio.file.Path;
import java.util.Map;
import java.util.Set;
import java.util.TreeMap;
import java.util.TreeSet;
import java.util.regex.Matcher;
import java.util.regex.Pattern;

/** The face of the class, what LANGUAGE.md rules out of its file, and how little the calls make. */
public final class RuleTests {
    private static final Path FILE = Path.of("src/main/java/SideWords.java");
    private static final String[] FACE = {
        "int write(int)", "int wipe()", "int fault()", "int station()", "int about(int)", "int offset(int)",
        "int told(int)", "int part(int)", "int name(int,boolean)", "int list(int,boolean)", "int word(int,int)",
        "int rest(int,int)", "int mended(int,int)", "int distance()", "int flips(int,int)", "int slips(int,int,int)",
        "int bits(int,int)", "int hear(int,int,int)", "int group(int,int)", "int reset()", "int undo()",
        "int ahead(int,int,int)", "int needs(int)", "int judge(int,long)", "int see(int,int,int)", "int unsee()",
        "long which()", "int share(int,int,boolean)", "int chance(int,int,int,boolean)", "long seed(long)",
        "int drawn(int)", "int keep(int)", "int again(int)"};

    private static final Due due = new Due();

    public static void main(String[] args) throws Exception {
        face();
        words(Files.readString(FILE));
        methodsStayShort(Files.readString(FILE));
        callsStayShallow(Files.readString(FILE));
        room();
        due.end();
    }

    private static void face() {
        due.about("face");
        Set<String> methods = new TreeSet<>();
        Set<String> hidden = new TreeSet<>();
        for (Method m : SideWords.class.getDeclaredMethods()) {
            StringBuilder told = new StringBuilder(m.getReturnType() + " " + m.getName() + "(");
            for (Class<?> type : m.getParameterTypes()) {
                told.append(told.charAt(told.length() - 1) == '(' ? "" : ",").append(type);
            }
            if (Modifier.isPublic(m.getModifiers())) {
                methods.add(told.append(")").toString());
            } else {
                due.holds(m.getName() + " is private", Modifier.isPrivate(m.getModifiers()));
                hidden.add(m.getName());
            }
        }
        due.holds("methods " + methods, methods.equals(new TreeSet<>(Set.of(FACE))));
        for (String told : FACE) {
            String name = told.substring(told.indexOf(' ') + 1, told.indexOf('('));
            due.holds("no private " + name, !hidden.contains(name));
        }
        Set<String> constants = new TreeSet<>();
        for (Field f : SideWords.class.getDeclaredFields()) {
            if (Modifier.isPublic(f.getModifiers())) {
                constants.add(f.getName());
            } else {
                due.holds(f.getName() + " is private", Modifier.isPrivate(f.getModifiers()));
            }
            due.holds(f.getName(), !Modifier.isStatic(f.getModifiers()) || Modifier.isFinal(f.getModifiers()));
        }
        due.holds("constants", constants.equals(new TreeSet<>(Set.of("UNKNOWN", "BAD", "LATE", "FULL", "NONE"))));
        Constructor<?>[] made = SideWords.class.getDeclaredConstructors();
        due.holds("constructor", made.length == 1 && Modifier.isPublic(made[0].getModifiers())
            && made[0].getParameterCount() == 0);
        due.holds("final", Modifier.isFinal(SideWords.class.getModifiers()));
        Class<?>[] inside = SideWords.class.getDeclaredClasses();
        due.holds("at most twelve classes", inside.length < 12);
        for (Class<?> c : inside) {
            due.holds(c + " is static", Modifier.isStatic(c.getModifiers()));
            due.holds(c + " has few fields", c.getDeclaredFields().length <= 25);
            for (Method m : c.getDeclaredMethods()) {
                for (String told : FACE) {
                    due.holds(c + "." + m.getName(), !told.contains(" " + m.getName() + "("));
                }
            }
        }
    }

    private static void words(String source) {
        due.about("LANGUAGE.md");
        String code = source.replaceAll("(?s)/\\*.*?\\*/", "").replaceAll("//[^\n]*", "");
        String[] ruledOut = {"throw", "throws", "try", "catch", "finally", "synchronized", "assert", "instanceof",
            "package", "volatile", "native", "transient", "protected", "var", "lambda"};
        for (String word : ruledOut) {
            due.holds("no " + word, !Pattern.compile("\\b" + word + "\\b").matcher(code).find());
        }
        due.holds("no -> or ::", !code.contains("->") && !code.contains("::"));
        due.holds("no static block", !Pattern.compile("static\\s*\\{").matcher(code).find());
        Matcher imports = Pattern.compile("import ([^;]+);").matcher(code);
        while (imports.find()) {
            due.holds("import " + imports.group(1), imports.group(1).equals("java.util.Arrays"));
        }
        Set<String> library = Set.of("Arrays.fill", "System.arraycopy", "Math.max", "Math.min", "Math.abs",
            "Integer.bitCount");
        Matcher calls = Pattern.compile("\\b(Arrays|System|Math|Integer|Long|String)\\.(\\w+)").matcher(code);
        while (calls.find()) {
            due.holds(calls.group(), library.contains(calls.group()));
        }
        for (int i = 0; i < source.length(); i++) {
            due.holds("sign at " + i, source.charAt(i) < 128);
        }
    }

    private static void methodsStayShort(String source) {
        due.about("methods");
        int begun = -1;
        String[] lines = source.split("\n");
        for (int i = 0; i < lines.length; i++) {
            String bare = lines[i].trim();
            boolean opens = bare.endsWith(") {") && !bare.matches("(\\} )?(if|for|while|switch|else|do)\\b.*");
            if (opens) {
                begun = i;
                due.holds("parameters in line " + (i + 1), bare.split(",").length <= 7);
            }
            if (begun >= 0) {
                due.holds("method at line " + (begun + 1) + " is short", i - begun <= 60 || bare.isEmpty());
            }
            if (lines[i].matches("(    |        )}") && begun >= 0) {
                begun = -1;
            }
        }
    }

    /** Calls go at most eight deep, a method's calls of itself set aside. */
    private static void callsStayShallow(String source) {
        due.about("depth");
        Map<String, Set<String>> calls = new TreeMap<>();
        Matcher heads = Pattern.compile("(?m)^ {4,8}(?:\\w+ )*\\w+(?:\\[\\])? (\\w+)\\([^)]*\\) \\{$").matcher(source);
        while (heads.find()) {
            Set<String> called = calledIn(bodyAt(source, heads.end()));
            calls.computeIfAbsent(heads.group(1), name -> new TreeSet<>()).addAll(called);
        }
        due.holds("all methods are seen", calls.keySet().containsAll(Set.of("judge", "hearBits", "restOf")));
        for (String name : calls.keySet()) {
            int deep = depthOf(name, calls, 0);
            due.holds(name + " goes " + deep + " deep", deep <= 8);
        }
    }

    private static String bodyAt(String source, int from) {
        int open = 1;
        int at = from;
        while (open > 0) {
            open += source.charAt(at) == '{' ? 1 : source.charAt(at) == '}' ? -1 : 0;
            at++;
        }
        return source.substring(from, at);
    }

    private static Set<String> calledIn(String body) {
        Set<String> names = new TreeSet<>();
        Matcher calls = Pattern.compile("(\\w+)\\(").matcher(body);
        while (calls.find()) {
            names.add(calls.group(1));
        }
        names.removeAll(Set.of("if", "for", "while", "switch", "return"));
        return names;
    }

    /** Calls of the library count as one. */
    private static int depthOf(String name, Map<String, Set<String>> calls, int above) {
        int deepest = 0;
        for (String next : calls.getOrDefault(name, Set.of())) {
            if (!next.equals(name) && above < 40) {
                deepest = Math.max(deepest, depthOf(next, calls, above + 1));
            }
        }
        return deepest + 1;
    }

    /** All calls of a run live in one room, so a call makes nothing that stays. */
    private static void room() {
        due.about("room");
        com.sun.management.ThreadMXBean threads =
            (com.sun.management.ThreadMXBean) ManagementFactory.getThreadMXBean();
        long id = Thread.currentThread().getId();
        dearCalls(new SideWords());
        long start = threads.getThreadAllocatedBytes(id);
        SideWords x = new SideWords();
        long made = threads.getThreadAllocatedBytes(id);
        dearCalls(x);
        long end = threads.getThreadAllocatedBytes(id);
        due.holds("an object takes " + (made - start) + " bytes", made - start < 40000);
        due.holds("its calls take " + (end - made) + " bytes", end - made < 4000);
    }

    private static void dearCalls(SideWords x) {
        for (int i = 0; i < 20; i++) {
            x.wipe();
            for (int at = 0; at < 13; at++) {
                x.write("S270317294223".charAt(at));
            }
            x.station();
            x.group(0x5402C869, 9);
            x.see(0x5402C869, i % 3, i % 5);
            x.which();
            x.share(i, 3, true);
            x.chance(i, 2, 5, false);
            x.flips(4, 3);
            x.distance();
            x.judge(3, 100841100220003L);
            x.drawn(40);
            x.needs(i);
            x.ahead(i, 9, 9);
            x.keep(0);
            x.again(0);
            x.undo();
        }
    }
}
