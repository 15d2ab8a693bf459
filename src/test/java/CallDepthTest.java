import java.io.File;
import java.io.PrintWriter;
import java.io.StringWriter;
import java.util.ArrayList;
import java.util.List;
import java.util.Map;
import java.util.Set;
import java.util.TreeMap;
import java.util.TreeSet;
import java.util.regex.Matcher;
import java.util.regex.Pattern;
import java.util.spi.ToolProvider;

/** Rule 11 of LANGUAGE.md: calls that are no recursion go at most eight deep. Read from the compiled program. */
public final class CallDepthTest {
    private static final Pattern METHOD = Pattern.compile("  (?:[\\w$.\\[\\]]+ )*([\\w$.]+)\\(.*\\)(?: throws .*)?;");
    private static final Pattern CALL = Pattern.compile("invoke\\w+ .*// (?:Interface)?Method (?:([\\w$/]+)\\.)?\"?([\\w$<>]+)\"?:.*");
    private static final Desk d = new Desk("CallDepthTest");
    private static final Map<String, Set<String>> calls = new TreeMap<>();
    private static final Set<String> face = new TreeSet<>();

    public static void main(String[] args) throws Exception {
        File folder = new File(ShirtWash.class.getProtectionDomain().getCodeSource().getLocation().toURI());
        for (String file : folder.list()) {
            if (file.matches("ShirtWash(\\$\\w+)?\\.class")) {
                read(new File(folder, file), file.substring(0, file.length() - 6));
            }
        }
        d.due("calls of the face", 34, face::size);
        for (String method : face) {
            List<String> deepest = deepest(method, new ArrayList<>());
            d.due("eight deep at most: " + deepest, true, () -> deepest.size() <= 8);
        }
        d.due("what a law's text needs is seen", true, () -> deepest("ShirtWash.law", new ArrayList<>()).size() > 6);
        d.end();
    }

    private static void read(File file, String owner) {
        StringWriter out = new StringWriter();
        ToolProvider.findFirst("javap").orElseThrow().run(new PrintWriter(out), new PrintWriter(out), "-p", "-c", file.getPath());
        String method = "";
        for (String line : out.toString().split("\n")) {
            Matcher head = METHOD.matcher(line);
            Matcher call = CALL.matcher(line);
            if (head.matches()) {
                method = owner + "." + (head.group(1).equals(owner) ? "<init>" : head.group(1));
                calls.computeIfAbsent(method, k -> new TreeSet<>());
                if (line.startsWith("  public ")) {
                    face.add(method);
                }
            } else if (call.find()) {
                String of = call.group(1) == null ? owner : call.group(1);
                if (of.startsWith("ShirtWash")) {
                    calls.get(method).add(of + "." + call.group(2));
                }
            }
        }
    }

    /** An inherited method is the parent's, an abstract one each of the children's: here both are told by their name. */
    private static List<String> bodies(String called) {
        String name = called.substring(called.indexOf('.'));
        List<String> found = new ArrayList<>();
        for (String method : calls.keySet()) {
            boolean heir = method.endsWith("Reader" + name) && called.contains("Reader");
            if (method.equals(called) || heir) {
                found.add(method);
            }
        }
        return found;
    }

    private static List<String> deepest(String method, List<String> open) {
        List<String> longest = new ArrayList<>();
        open.add(method);
        for (String called : calls.get(method)) {
            for (String body : bodies(called)) {
                if (!open.contains(body)) {
                    List<String> path = deepest(body, open);
                    longest = path.size() > longest.size() ? path : longest;
                }
            }
        }
        open.remove(open.size() - 1);
        longest.add(0, method.substring(method.indexOf('.') + 1));
        return longest;
    }
}
