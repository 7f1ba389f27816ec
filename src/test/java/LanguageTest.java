import java.lang.reflect.Constructor;
import java.lang.reflect.Field;
import java.lang.reflect.Method;
import java.lang.reflect.Modifier;
import java.nio.file.Files;
import java.nio.file.Path;
import java.util.ArrayList;
import java.util.Arrays;
import java.util.HashSet;
import java.util.List;
import java.util.Set;
import java.util.TreeSet;
import java.util.regex.Matcher;
import java.util.regex.Pattern;

/** The face, and the rules of LANGUAGE.md that can be seen in the source or in the compiled class. */
public final class LanguageTest {
    private static final String[] FACE = {
        "int row(int,int)", "int lay(int,int,int)", "int at(int,int)", "int tear(int)",
        "int copy(int,int,int,int,int)", "int mean(int)", "int text(int,int)", "int put(int,int,int)",
        "int fault(int)", "int green(int)", "int bough(int,int)", "int death(int,int)", "int mark(int,int)",
        "int morning()", "int tell(int)", "int water(int,int)", "int prune(int)", "int undo(int)", "int keep(int)",
        "int on(int)", "int answers(int,int,int)", "int leaves(int)", "int bare(int)", "int round(int,int)",
        "int plan(int,int,int)", "int about(int,int)", "int sure(int,int)", "int next(int,int)",
        "int worths(int,int)", "int kinds(int,int)", "int sets(int)", "int surely(int)", "int duel(int)",
        "int odds(int,int,int)", "int mid(int)", "int lots(int,int)", "int asked()", "long upper()", "long lower()",
        "int count(int)", "int finding()", "int findings(int)", "long digest()"};
    private static final String[] CONSTANTS = {"BAD", "FULL", "FINDING", "STATE", "SPENT", "NONE"};
    private static final String[] RULED_OUT = {"throw", "throws", "try", "catch", "finally", "synchronized", "assert",
        "volatile", "transient", "native", "package", "Object", "Exception", "System\\.(?!arraycopy)\\w+",
        "\\w+Exact", "Random", "Thread", "Class", "getClass", "hashCode", "toString", "instanceof\\s+\\w+\\s*\\("};
    private static final Set<String> LIBRARY = Set.of("Arrays.fill", "Arrays.copyOf", "Arrays.copyOfRange",
        "System.arraycopy", "Math.max", "Math.min", "Math.abs", "Integer.bitCount");

    private static int wrong = 0;

    public static void main(String[] args) throws Exception {
        face();
        documentFace();
        Class<?>[] all = classes();
        names(all);
        sizes(all);
        String source = Files.readString(Path.of(args.length > 0 ? args[0] : "src/main/java/LimeDeaths.java"));
        must(source.chars().allMatch(c -> c == '\n' || c >= 32 && c < 127), "a sign beyond 32 to 126");
        words(bare(source));
        methodLengths(bare(source));
        System.out.println("  " + wrong + " rules broken");
        if (wrong != 0) {
            System.exit(1);
        }
    }

    private static void must(boolean holds, String broken) {
        if (!holds) {
            wrong++;
            System.out.println("  " + broken);
        }
    }

    private static Class<?>[] classes() {
        List<Class<?>> all = new ArrayList<>(List.of(LimeDeaths.class));
        all.addAll(Arrays.asList(LimeDeaths.class.getDeclaredClasses()));
        return all.toArray(new Class<?>[0]);
    }

    private static String signature(Method m) {
        StringBuilder s = new StringBuilder(m.getReturnType().getName()).append(' ').append(m.getName()).append('(');
        for (Class<?> p : m.getParameterTypes()) {
            s.append(s.charAt(s.length() - 1) == '(' ? "" : ",").append(p.getName());
        }
        return s.append(')').toString();
    }

    private static void face() {
        must(Modifier.isPublic(LimeDeaths.class.getModifiers()), "the class is not public");
        must(Modifier.isFinal(LimeDeaths.class.getModifiers()), "the class is not final");
        Set<String> seen = new TreeSet<>();
        for (Method m : LimeDeaths.class.getDeclaredMethods()) {
            if (Modifier.isPublic(m.getModifiers())) {
                seen.add(signature(m));
                must(!Modifier.isStatic(m.getModifiers()), m + " is static");
            } else {
                must(Modifier.isPrivate(m.getModifiers()), m + " is neither public nor private");
            }
        }
        must(seen.equals(new TreeSet<>(Arrays.asList(FACE))), "the face is " + seen);
        Set<String> constants = new HashSet<>();
        for (Field f : LimeDeaths.class.getDeclaredFields()) {
            if (!Modifier.isPrivate(f.getModifiers())) {
                constants.add(f.getName());
                int all = Modifier.PUBLIC | Modifier.STATIC | Modifier.FINAL;
                must(f.getModifiers() == all && f.getType() == int.class, f + " is no constant of the face");
            }
        }
        must(constants.equals(Set.of(CONSTANTS)), "the constants are " + constants);
        Constructor<?>[] made = LimeDeaths.class.getDeclaredConstructors();
        must(made.length == 1 && made[0].getParameterCount() == 0 && Modifier.isPublic(made[0].getModifiers()),
            "the constructor is not the face's");
        must(LimeDeaths.class.getInterfaces().length == 0, "it implements something");
    }

    /** The face above is the document's, and the constants have the document's values. */
    private static void documentFace() throws Exception {
        Path document = Path.of("../shared/DOC.md");
        if (!Files.isReadable(document)) {
            System.out.println("  " + document + " can't be read: its face is not looked up");
            return;
        }
        Matcher block = Pattern.compile("(?s)```java\n(.*?)```").matcher(Files.readString(document));
        must(block.find(), "the document has no face");
        String text = block.group(1);
        Set<String> said = new TreeSet<>();
        Matcher methods = Pattern.compile("public (\\w+ \\w+)\\(([^)]*)\\);").matcher(text);
        while (methods.find()) {
            said.add(methods.group(1) + "(" + methods.group(2).replaceAll("(\\w+) \\w+(, )?", "$1$2")
                .replace(", ", ",") + ")");
        }
        must(said.equals(new TreeSet<>(Arrays.asList(FACE))), "the document's face is " + said);
        Matcher constants = Pattern.compile("\\b([A-Z]+) = (-?\\d+)").matcher(text);
        Set<String> named = new HashSet<>();
        while (constants.find()) {
            named.add(constants.group(1));
            int value = LimeDeaths.class.getField(constants.group(1)).getInt(null);
            must(value == Integer.parseInt(constants.group(2)), constants.group() + " is " + value);
        }
        must(named.equals(Set.of(CONSTANTS)), "the document's constants are " + named);
    }

    private static void names(Class<?>[] all) {
        Set<String> faced = new HashSet<>();
        for (String s : FACE) {
            faced.add(s.substring(s.indexOf(' ') + 1, s.indexOf('(')));
        }
        for (Class<?> c : all) {
            for (Method m : c.getDeclaredMethods()) {
                boolean isFace = c == LimeDeaths.class && Modifier.isPublic(m.getModifiers());
                must(isFace || !faced.contains(m.getName()), m + " bears a name of the face");
                must(m.getParameterCount() <= 7, m + " takes more than seven");
            }
        }
    }

    private static void sizes(Class<?>[] all) {
        must(all.length <= 12, all.length + " classes");
        for (Class<?> c : all) {
            int own = 0;
            for (Field f : c.getDeclaredFields()) {
                boolean isStatic = Modifier.isStatic(f.getModifiers());
                own += isStatic ? 0 : 1;
                must(!isStatic || Modifier.isFinal(f.getModifiers()), f + " is static and not final");
            }
            must(own <= 20, c + " has " + own + " fields");
            must(c == LimeDeaths.class || Modifier.isStatic(c.getModifiers()), c + " is not static");
            must(c.getDeclaredClasses().length == 0 || c == LimeDeaths.class, c + " has classes inside");
        }
    }

    /** The source without comments, texts and signs. */
    private static String bare(String source) {
        return source.replaceAll("(?s)/\\*.*?\\*/", "").replaceAll("//[^\n]*", "")
            .replaceAll("\"(?:[^\"\\\\]|\\\\.)*\"", "\"\"").replaceAll("'(?:[^'\\\\]|\\\\.)'", "0");
    }

    private static void words(String bare) {
        for (String word : RULED_OUT) {
            must(!Pattern.compile("\\b" + word + "\\b").matcher(bare).find(), word + " is used");
        }
        must(!bare.contains("->") && !bare.contains("::"), "a lambda or a method reference");
        must(!bare.contains("@"), "an annotation");
        Matcher imports = Pattern.compile("import ([^;]+);").matcher(bare);
        while (imports.find()) {
            must(imports.group(1).equals("java.util.Arrays"), imports.group(1) + " is imported");
        }
        Matcher calls = Pattern.compile("\\b(Arrays|System|Math|Integer|Long|String|List)\\.(\\w+)").matcher(bare);
        while (calls.find()) {
            String call = calls.group().replace("java.util.", "");
            must(call.equals("util.Arrays") || LIBRARY.contains(call), call + " is not in the library's part");
        }
        must(!Pattern.compile("while\\s*\\(\\s*true|for\\s*\\(\\s*;\\s*;").matcher(bare).find(), "an endless loop");
    }

    private static void methodLengths(String bare) {
        int start = 0;
        String head = "";
        String[] lines = bare.split("\n");
        for (int k = 0; k < lines.length; k++) {
            if (lines[k].matches(" {4,8}(?!if|for|while|switch|else|return)[\\w\\[\\]<>, ]+\\(.*\\{")) {
                start = k;
                head = lines[k].strip();
            } else if (lines[k].matches(" {4}\\}| {8}\\}") && !head.isEmpty()) {
                must(k - start <= 60, head + " has " + (k - start) + " lines");
            }
        }
        must(!head.isEmpty(), "no method was seen");
    }
}
