import java.util.ArrayList;
import java.util.List;

/** What the project's tests share: comparing answers, expecting exceptions, and building graphs from lines. */
final class Check {
    interface Call {
        void run();
    }

    private static int checks = 0;
    private static final List<String> faults = new ArrayList<>();

    private Check() {
    }

    static void is(String what, Object got, Object due) {
        checks++;
        if (!got.equals(due)) {
            faults.add(what + " answered " + got + ", due is " + due);
        }
    }

    /** The exact class counts: an exception of the machine is a subclass of one that the document names. */
    static void fails(String what, Class<?> due, Call call) {
        String got = "nothing";
        try {
            call.run();
        } catch (RuntimeException e) {
            got = e.getClass().getSimpleName();
        }
        is(what + " throws", got, due.getSimpleName());
    }

    /** Each line is given to define; the graph has the given number of blocks. */
    static SsaRepair graph(int blocks, String... lines) {
        SsaRepair x = new SsaRepair();
        x.reset(blocks);
        for (String line : lines) {
            define(x, line);
        }
        return x;
    }

    static int define(SsaRepair x, String line) {
        type(x, line);
        return x.define();
    }

    static void type(SsaRepair x, String text) {
        for (char character : text.toCharArray()) {
            x.append(character);
        }
    }

    /** The whole graph as text, to see that a call left it alone. */
    static String show(SsaRepair x) {
        StringBuilder text = new StringBuilder();
        for (int block = 0; block < x.blockCount(); block++) {
            text.append((char) ('a' + block)).append(':');
            for (int action = 0; action < x.actionCount(block); action++) {
                int found = x.action(block, action);
                text.append(found < 10 ? 'd' : 'u').append(found % 10);
            }
            text.append(x.edgeCount(block) > 0 ? ">" : "");
            for (int edge = 0; edge < x.edgeCount(block); edge++) {
                text.append((char) ('a' + x.target(block, edge)));
            }
            text.append(' ');
        }
        return text.toString().trim();
    }

    static int set(int... blocks) {
        int mask = 0;
        for (int block : blocks) {
            mask |= 1 << block;
        }
        return mask;
    }

    static void end(String name) {
        for (String fault : faults) {
            System.out.println(fault);
        }
        System.out.println(name + ": " + checks + " checks, " + faults.size() + " faults");
        if (!faults.isEmpty()) {
            System.exit(1);
        }
    }
}
