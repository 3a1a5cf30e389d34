import java.lang.management.ManagementFactory;
import java.lang.reflect.Constructor;
import java.lang.reflect.Field;
import java.lang.reflect.Member;
import java.lang.reflect.Method;
import java.lang.reflect.Modifier;
import java.nio.file.Files;
import java.nio.file.Path;
import java.util.ArrayList;
import java.util.Arrays;
import java.util.List;
import java.util.Set;
import java.util.TreeSet;
import java.util.regex.Matcher;
import java.util.regex.Pattern;

/** The face of the document, the rules of LANGUAGE.md that can be looked up, and the room that a run takes. */
public final class FaceTests {
    private static final Path DOCUMENT = Path.of("../shared/DOC.md");
    private static final com.sun.management.ThreadMXBean BEAN =
            (com.sun.management.ThreadMXBean) ManagementFactory.getThreadMXBean();
    private static final Path PROGRAM = Path.of("src/main/java/SsaRepair.java");

    public static void main(String[] args) throws Exception {
        face();
        hiddenMembers();
        staticFields();
        words();
        lengths();
        room();
        Check.end("FaceTests");
    }

    private static void face() throws Exception {
        Set<String> due = new TreeSet<>();
        Set<String> promised = new TreeSet<>();
        for (String line : Files.readAllLines(DOCUMENT)) {
            if (line.startsWith("    public ") && line.endsWith(";")) {
                due.add(plain(withoutNames(line.trim())));
            } else if (line.matches("`[^`]+`")) {
                promised.add(plain(withoutNames("public " + line.replace("`", "") + ";")));
            }
        }
        Set<String> found = new TreeSet<>();
        for (Constructor<?> constructor : SsaRepair.class.getDeclaredConstructors()) {
            found.add(plain(constructor.toString() + ";"));
        }
        for (Method method : SsaRepair.class.getDeclaredMethods()) {
            if (!Modifier.isPrivate(method.getModifiers())) {
                found.add(plain(method.toString() + ";"));
            }
        }
        Check.is("face", found, due);
        Check.is("face of the promises", found, promised);
        Check.is("face: members", due.size(), 46);
        Check.is("class is public and final", SsaRepair.class.getModifiers(), Modifier.PUBLIC | Modifier.FINAL);
    }

    private static String withoutNames(String signature) {
        return signature.replaceAll("(\\(|, )(\\w+) \\w+", "$1$2");
    }

    private static String plain(String signature) {
        return signature.replace("java.lang.", "").replace("java.util.", "").replace("SsaRepair.", "")
                .replaceAll(",\\s*", ", ");
    }

    private static void hiddenMembers() {
        Set<String> names = new TreeSet<>();
        for (Method method : SsaRepair.class.getMethods()) {
            names.add(method.getName());
        }
        List<Class<?>> classes = new ArrayList<>(Arrays.asList(SsaRepair.class.getDeclaredClasses()));
        for (Class<?> inside : classes) {
            Check.is(inside + " is static", Modifier.isStatic(inside.getModifiers()), true);
            Check.is(inside + " is not open", inside.getModifiers() & (Modifier.PUBLIC | Modifier.PROTECTED), 0);
        }
        for (Field field : SsaRepair.class.getDeclaredFields()) {
            Check.is(field + " is private", Modifier.isPrivate(field.getModifiers()), true);
        }
        classes.add(SsaRepair.class);
        for (Class<?> each : classes) {
            for (Method method : each.getDeclaredMethods()) {
                boolean isFace = each == SsaRepair.class && !Modifier.isPrivate(method.getModifiers());
                Check.is(method + " has a name of its own", isFace || !names.contains(method.getName()), true);
                Check.is(method + " takes at most 7", method.getParameterCount() <= 7, true);
            }
            Check.is(each + " has few fields", each.getDeclaredFields().length <= 36, true);
        }
        Check.is("at most 12 classes", classes.size() <= 12, true);
    }

    private static void staticFields() {
        for (Class<?> inside : SsaRepair.class.getDeclaredClasses()) {
            for (Field field : inside.getDeclaredFields()) {
                Check.is(field + " is not static", Modifier.isStatic(field.getModifiers()), false);
            }
        }
        for (Field field : SsaRepair.class.getDeclaredFields()) {
            if (Modifier.isStatic(field.getModifiers())) {
                Check.is(field + " is final", Modifier.isFinal(field.getModifiers()), true);
                Check.is(field + " is a number", field.getType().isPrimitive(), true);
            }
        }
    }

    private static void words() throws Exception {
        String text = Files.readString(PROGRAM);
        String code = text.replaceAll("//[^\n]*", "").replaceAll("\"[^\"\n]*\"", "\"\"");
        for (String wrong : List.of("->", "::", "\\bfinally\\b", "\\bassert\\b", "\\bsynchronized\\b", "\\bcatch\\b",
                "\\btry\\b", "\\bpackage\\b", "\\bvar\\b", "static \\{", "\"\" *\\+", "\\+ *\"\"", "Exact\\b",
                "\\bHash", "\\bequals\\b", "\\binstanceof\\b", "\\bwhile\\b", "@")) {
            Check.is("no " + wrong, Pattern.compile(wrong).matcher(code).find(), false);
        }
        Matcher library = Pattern.compile("\\b(?!SsaRepair\\b)([A-Z][a-z]\\w*)").matcher(code);
        Set<String> found = new TreeSet<>();
        while (library.find()) {
            found.add(library.group(1));
        }
        found.removeAll(List.of("Graph", "Flow", "History", "Line", "Walk"));
        Check.is("library", found.toString(), "[IllegalArgumentException, IllegalStateException, "
                + "IndexOutOfBoundsException, Integer, Math, NoSuchElementException, System]");
        Check.is("signs are 1 to 127", text.chars().allMatch(sign -> sign >= 1 && sign <= 127), true);
    }

    /** A method begins with a line that opens a brace at 4 or 8 spaces and ends with its closing line. */
    private static void lengths() throws Exception {
        List<String> lines = Files.readAllLines(PROGRAM);
        for (int start = 0; start < lines.size(); start++) {
            Matcher head = Pattern.compile("( {4}| {8})\\S.*\\(.*").matcher(lines.get(start));
            if (head.matches() && !lines.get(start).endsWith(";")) {
                int end = start;
                while (end < lines.size() && !lines.get(end).equals(head.group(1) + "}")) {
                    end++;
                }
                Check.is("length of " + lines.get(start).trim(), end - start < 60, true);
            }
        }
    }

    /** Rows are made once: an object is small, and calls that answer make nothing. */
    private static void room() {
        SsaRepair x = Check.graph(14, "a:d0>bc", "b:u0d1>cd", "c:d0>bd", "d:u0u1>bn", "n:u0d0>nb");
        long due = allCalls(x);
        // What the asking itself makes settles after some rounds, so the last one counts.
        long ofObject = 0;
        long ofCalls = 0;
        for (int round = 0; round < 20; round++) {
            long start = allocated();
            new SsaRepair();
            long between = allocated();
            long got = allCalls(x);
            long end = allocated();
            Check.is("the same answers", got, due);
            ofObject = between - start;
            ofCalls = end - between;
        }
        System.out.println("an object takes " + ofObject + " bytes, all calls together " + ofCalls);
        Check.is("bytes of an object are few", ofObject < 16000, true);
        Check.is("bytes made by calls", ofCalls < 300, true);
    }

    private static long allocated() {
        return BEAN.getThreadAllocatedBytes(Thread.currentThread().getId());
    }

    private static long allCalls(SsaRepair x) {
        x.save();
        long sum = x.restore() + x.reset(14) + x.restore() + x.addEdge(3, 2) + x.removeEdge(3, 2);
        sum += x.removeAction(3, 0) + x.undo() + x.reset(13) + x.addEdge(0, 1) + x.addEdge(1, 2) + x.thread(0, 1, 2);
        sum += x.restore() + x.addEdge(3, 2) + x.addedMerges() + x.removedMerges() + x.changedUses();
        sum += x.newlyReachable() + x.undo() + x.walk(0) + x.walkEnd() + x.lastOnWalk(0) + x.mergesOnWalk(0);
        sum += x.clearWalk() + x.walks(13, 30) + (long) (1000 * x.mergeDensity()) + x.unneeded() + x.mergeCount();
        for (int block = 0; block < 4; block++) {
            sum += x.predecessors(block) + x.frontier(block) + x.actionCount(block) + x.edgeCount(block);
            for (int variable = 0; variable < 4; variable++) {
                sum += x.source(block, variable, true) + x.source(block, variable, false);
                sum += x.reachingCount(block, variable) + x.merges(variable) + x.minimalMerges(variable);
                sum += x.usesOf(variable, 1000 + block) + (x.isLive(block, variable) ? 1 : 0);
                sum += x.isInitialReaching(block, variable) ? 1 : 0;
            }
        }
        return sum + x.differentOperands(3, 0) + x.operand(3, 0, 1) + x.reaching(3, 0, 0) + x.sourceOfUse(3, 0);
    }
}
