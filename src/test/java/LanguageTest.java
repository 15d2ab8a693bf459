import java.lang.reflect.Constructor;
import java.lang.reflect.Field;
import java.lang.reflect.Method;
import java.lang.reflect.Modifier;
import java.nio.file.Files;
import java.nio.file.Path;
import java.util.ArrayList;
import java.util.Arrays;
import java.util.List;
import java.util.Set;
import java.util.TreeSet;
import java.util.regex.Matcher;
import java.util.regex.Pattern;

/** The rules of LANGUAGE.md that a look at the class and its source can tell, and how much room a run takes. */
public final class LanguageTest {
    private static final Desk d = new Desk("LanguageTest");
    private static final Set<String> FACE = new TreeSet<>(Arrays.asList("feed", "end", "camp", "law", "fault", "man", "shirt",
            "barred", "cost", "ledger", "days", "give", "take", "hang", "truce", "buttons", "ways", "plan", "least", "lack",
            "hand", "lot", "home", "tore", "spies", "lines", "blue", "trace", "seed", "undo", "image", "back", "count"));

    public static void main(String[] args) throws Exception {
        face();
        fields();
        String program = System.getProperty("program", "src/main/java/ShirtWash.java");
        source(Files.readString(Path.of(program)));
        room();
        d.end();
    }

    private static void face() {
        Set<String> open = new TreeSet<>();
        Set<String> closed = new TreeSet<>();
        for (Method m : ShirtWash.class.getDeclaredMethods()) {
            (Modifier.isPublic(m.getModifiers()) ? open : closed).add(m.getName());
            d.due(m.getName() + " is public or private", true,
                    () -> Modifier.isPublic(m.getModifiers()) || Modifier.isPrivate(m.getModifiers()));
            d.due(m.getName() + " takes at most seven", true, () -> m.getParameterCount() <= 7);
        }
        d.due("public methods", FACE, () -> open);
        for (Class<?> c : ShirtWash.class.getDeclaredClasses()) {
            d.due(c.getName() + " is static, and not public", true,
                    () -> Modifier.isStatic(c.getModifiers()) && !Modifier.isPublic(c.getModifiers()));
            for (Method m : c.getDeclaredMethods()) {
                closed.add(m.getName());
                d.due(m.getName() + " takes at most seven", true, () -> m.getParameterCount() <= 7);
            }
        }
        closed.retainAll(FACE);
        d.due("no other method with a public name", "[]", () -> closed);
        Constructor<?>[] made = ShirtWash.class.getDeclaredConstructors();
        d.due("one constructor", 1, () -> made.length);
        d.due("it is public and takes nothing", true,
                () -> Modifier.isPublic(made[0].getModifiers()) && made[0].getParameterCount() == 0);
        d.due("the class is final", true, () -> Modifier.isFinal(ShirtWash.class.getModifiers()));
        d.due("classes", true, () -> ShirtWash.class.getDeclaredClasses().length <= 11);
    }

    private static void fields() {
        List<Class<?>> classes = new ArrayList<>(Arrays.asList(ShirtWash.class.getDeclaredClasses()));
        classes.add(ShirtWash.class);
        Set<String> open = new TreeSet<>();
        for (Class<?> c : classes) {
            int own = 0;
            for (Field f : c.getDeclaredFields()) {
                if (Modifier.isStatic(f.getModifiers())) {
                    d.due(f.getName() + " is final", true, () -> Modifier.isFinal(f.getModifiers()));
                } else {
                    own++;
                }
                if (c == ShirtWash.class && !Modifier.isPrivate(f.getModifiers())) {
                    open.add(f.getName());
                }
            }
            int many = own;
            d.due(c.getName() + " has at most twenty fields", true, () -> many <= 20);
        }
        d.due("fields that are not private", "[NONE]", () -> open);
    }

    private static void source(String text) {
        String code = text.replaceAll("(?s)/\\*.*?\\*/", "").replaceAll("//[^\n]*", "").replaceAll("\"[^\"]*\"", "\"\"");
        for (String word : new String[] {"try", "catch", "finally", "synchronized", "assert", "->", "::", "Exact", "Object",
                "HashMap", "Random", "System\\.(?!arraycopy)", "float", "double", "public static (?!final int NONE)",
                "static \\{", "@", "\" \\+", "\\+ \"", "package ", "instanceof", "String\\.", "hashCode", "toString"}) {
            Matcher m = Pattern.compile(word.matches("\\w+") ? "\\b" + word + "\\b" : word).matcher(code);
            d.due("no " + word, false, m::find);
        }
        Matcher imports = Pattern.compile("import ([\\w.]+);").matcher(code);
        while (imports.find()) {
            String name = imports.group(1);
            d.due("import " + name, true, () -> name.equals("java.util.Arrays") || name.equals("java.util.NoSuchElementException"));
        }
        Matcher library = Pattern.compile("\\b(Integer|Long|Math|Arrays|System|String)\\.\\w+.").matcher(code);
        while (library.find()) {
            String call = library.group();
            d.due("the library's " + call, true, () -> call.matches(
                    "(Integer\\.bitCount|Math\\.(abs|max|min)|Arrays\\.(copyOf|fill)|System\\.arraycopy)\\("));
        }
        d.due("no index that is not looked at", false, () -> Pattern.compile("\\w\\[\\d+\\]").matcher(code).find());
        Matcher thrown = Pattern.compile("throw ([^;]*);").matcher(code);
        while (thrown.find()) {
            String what = thrown.group(1);
            d.due("throw " + what, true, () -> what.matches(
                    "new (IllegalState|IllegalArgument|IndexOutOfBounds|UnsupportedOperation|NoSuchElement)(Exception)\\((\"\")?\\)"));
        }
        int since = 0;
        int longest = 0;
        for (String line : code.split("\n")) {
            since = line.matches("    (    )?(public|private|final|abstract|boolean)[^=;]*\\{") ? 0 : since + 1;
            longest = line.matches("    (    )?\\}") ? Math.max(longest, since) : longest;
        }
        int most = longest;
        d.due("methods of at most sixty lines", true, () -> most > 20 && most <= 60);
    }

    /** A run may take 7.3 million fields and elements: 512 of the dearest calls must stay far below. */
    private static void room() {
        byte[] law = ("bar if 1<2" + "or 1<2".repeat(65)).getBytes();
        int[][] feeds = new int[law.length / 20][5];
        for (int i = 0; i < feeds.length; i++) {
            for (int j = 0; j < 5; j++) feeds[i][j] = Desk.four(law, 20 * i + 4 * j);
        }
        com.sun.management.ThreadMXBean threads =
                (com.sun.management.ThreadMXBean) java.lang.management.ManagementFactory.getThreadMXBean();
        long id = Thread.currentThread().getId();
        dearest(feeds, 100);
        long before = threads.getThreadAllocatedBytes(id);
        dearest(feeds, 512);
        long bytes = threads.getThreadAllocatedBytes(id) - before;
        System.out.println("LanguageTest: a dear run of 512 calls makes " + bytes + " bytes");
        d.due("room", true, () -> bytes < 1_000_000);
    }

    private static void dearest(int[][] feeds, int calls) {
        ShirtWash w = new ShirtWash();
        for (int call = 0; call < calls; call++) {
            int i = call % (feeds.length + 2);
            if (i == feeds.length) w.law();
            else if (i > feeds.length) w.truce();
            else w.feed(feeds[i][0], feeds[i][1], feeds[i][2], feeds[i][3], feeds[i][4]);
        }
    }
}
