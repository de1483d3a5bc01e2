import java.io.File;
import java.io.PrintWriter;
import java.io.StringWriter;
import java.util.ArrayList;
import java.util.List;
import java.util.Map;
import java.util.Set;
import java.util.TreeMap;
import java.util.TreeSet;
import java.util.regex.Matcher;
import java.util.regex.Pattern;
import java.util.spi.ToolProvider;

/**
 * Rules of LANGUAGE.md that the compiled class shows: calls at most eight deep (those that call one another count once
 * each), no object made by a call, nothing thrown or caught, no texts joined by +.
 */
public final class BytecodeTest {
    private static final int DEEPEST = 8;
    private static final Pattern CLASS = Pattern.compile("^(?:[a-z]+ )*class ([\\w$]+)");
    private static final Pattern METHOD = Pattern.compile("^  (?:[\\w$.\\[\\]]+ )*([\\w$]+)\\([^)]*\\);$");
    private static final Pattern CALL = Pattern.compile("// Method (?:([\\w$]+)\\.)?\"?(<?\\w+>?)\"?:");
    private static final Pattern STEP = Pattern.compile("^ +\\d+: (\\w+)");
    private static final Set<String> MAKES = Set.of("new", "newarray", "anewarray", "multianewarray");
    private static final Set<String> REFUSED = Set.of("athrow", "invokedynamic", "monitorenter", "monitorexit");

    private static final Map<String, Set<String>> CALLS = new TreeMap<>();
    private static String inside = "";
    private static String method = "";
    private static int wrong;

    public static void main(String[] args) {
        ToolProvider javap = ToolProvider.findFirst("javap").orElse(null);
        if (javap == null) {
            System.out.println("this Java has no javap: nothing was looked at");
            return;
        }
        for (String line : listing(javap).split("\n")) {
            look(line);
        }
        check(CALLS.size() > 100, "only " + CALLS.size() + " methods found");
        for (String method : CALLS.keySet()) {
            List<String> chain = longest(method, new ArrayList<>());
            check(chain.size() <= DEEPEST, chain.size() + " calls deep: " + chain);
        }
        System.out.println(wrong + " faults of the compiled class");
        if (wrong != 0) {
            System.exit(1);
        }
    }

    private static String listing(ToolProvider javap) {
        String classes = System.getProperty("java.class.path");
        List<String> call = new ArrayList<>(List.of("-c", "-p"));
        for (String name : new TreeSet<>(List.of(new File(classes).list()))) {
            if (name.matches("HerringShares(\\$\\w+)?\\.class")) {
                call.add(new File(classes, name).getPath());
            }
        }
        StringWriter out = new StringWriter();
        javap.run(new PrintWriter(out), new PrintWriter(System.out, true), call.toArray(new String[0]));
        return out.toString();
    }

    private static void look(String line) {
        Matcher start = CLASS.matcher(line);
        Matcher name = METHOD.matcher(line);
        Matcher step = STEP.matcher(line);
        if (start.find()) {
            inside = start.group(1);
        } else if (name.find()) {
            method = inside + "." + (name.group(1).equals(inside) ? "<init>" : name.group(1));
            CALLS.putIfAbsent(method, new TreeSet<>());
        } else if (step.find()) {
            check(!MAKES.contains(step.group(1)) || method.endsWith("<init>"), method + " makes an object");
            check(!REFUSED.contains(step.group(1)), method + " has a step " + step.group(1));
            Matcher call = CALL.matcher(line);
            if (call.find()) {
                CALLS.get(method).add((call.group(1) == null ? inside : call.group(1)) + "." + call.group(2));
            }
        }
        check(!line.contains("Exception table"), method + " catches");
    }

    /** The longest chain of calls from a method on in which none comes twice. */
    private static List<String> longest(String from, List<String> open) {
        List<String> chain = new ArrayList<>(open);
        chain.add(from);
        List<String> best = chain;
        for (String next : CALLS.get(from)) {
            if (CALLS.containsKey(next) && !chain.contains(next)) {
                List<String> found = longest(next, chain);
                best = found.size() > best.size() ? found : best;
            }
        }
        return best;
    }

    private static void check(boolean fine, String what) {
        if (!fine) {
            wrong++;
            System.out.println(what);
        }
    }
}
