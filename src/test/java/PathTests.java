import java.util.ArrayList;
import java.util.Arrays;
import java.util.List;
import java.util.Random;
import java.util.Set;

/**
 * Small graphs, with every path of them listed: dominators, merges and reaching definitions as the description words
 * them, and what the merges are for: on every path each use gets, from its source, the definition that came last.
 */
public final class PathTests {
    private static final int GRAPHS = 4000;
    private static final int VARIABLES = 2;

    private final Paths paths;
    private final SsaRepair object;
    private final int[] merged = new int[14];
    private int mergesSeen = 0;

    private PathTests(String... lines) {
        Check.at(Arrays.toString(lines) + ": ");
        paths = new Paths(lines);
        object = Check.graph(lines.length, lines);
    }

    public static void main(String[] args) {
        Random random = new Random(1);
        int seen = 0;
        for (int graph = 0; graph < GRAPHS; graph++) {
            seen += new PathTests(lines(random)).test();
        }
        Check.at("");
        Check.is("many paths come to merges", seen > GRAPHS, true);
        Check.end("PathTests");
    }

    private static String[] lines(Random random) {
        String[] lines = new String[random.nextInt(4) + 2];
        for (int block = 0; block < lines.length; block++) {
            StringBuilder line = new StringBuilder().append((char) ('a' + block)).append(':');
            for (int action = random.nextInt(4); action > 0; action--) {
                line.append(random.nextBoolean() ? 'd' : 'u').append(random.nextInt(VARIABLES));
            }
            StringBuilder targets = new StringBuilder();
            for (int edge = random.nextInt(3) + (block == 0 ? 1 : 0); edge > 0; edge--) {
                String target = String.valueOf((char) ('b' + random.nextInt(lines.length - 1)));
                targets.append(targets.indexOf(target) >= 0 ? "" : target);
            }
            lines[block] = line.append(targets.length() > 0 ? ">" : "").append(targets).toString();
        }
        return lines;
    }

    private int test() {
        for (int block = 0; block < paths.blocks(); block++) {
            Check.is("reachable " + block, object.isReachable(block), paths.reachable(block));
            Check.is("walks to " + block, object.walks(block, 4), paths.walks(block, 4));
            Check.is("longer walks to " + block, object.walks(block, 6), paths.walks(block, 6));
            if (paths.reachable(block)) {
                dominators(block);
                variables(block);
            }
        }
        for (int variable = 0; variable < VARIABLES; variable++) {
            merges(variable);
            alongPaths(variable);
        }
        return mergesSeen;
    }

    private void dominators(int block) {
        List<Integer> above = new ArrayList<>();
        for (int other = 0; other < paths.blocks(); other++) {
            if (paths.reachable(other)) {
                boolean due = paths.dominates(other, block);
                Check.is(other + " dominates " + block, object.dominates(other, block), due);
                if (due && other != block) {
                    above.add(other);
                }
            }
        }
        if (block > 0) {
            int parent = object.parent(block);
            Check.is("parent of " + block, above.contains(parent), true);
            Check.is("all others dominate the parent of " + block,
                    above.stream().allMatch(other -> paths.dominates(other, parent)), true);
        }
        Check.is("frontier of " + block, object.frontier(block), paths.frontier(block));
    }

    private void variables(int block) {
        for (int variable = 0; variable < VARIABLES; variable++) {
            String place = variable + " at " + block;
            Check.is("live " + place, object.isLive(block, variable), paths.live(block, variable));
            Check.is("initial " + place, object.isInitialReaching(block, variable),
                    paths.initialReaching(block, variable));
            Set<Integer> due = paths.reaching(block, variable);
            List<Integer> got = new ArrayList<>();
            for (int index = object.reachingCount(block, variable) - 1; index >= 0; index--) {
                got.add(0, object.reaching(block, variable, index));
            }
            Check.is("reaching " + place, got, new ArrayList<>(due));
        }
    }

    private void merges(int variable) {
        int minimal = paths.minimal(variable);
        int pruned = 0;
        for (int block = 0; block < paths.blocks(); block++) {
            pruned |= (minimal >> block & 1) != 0 && paths.live(block, variable) ? 1 << block : 0;
        }
        Check.is("minimal merges of " + variable, object.minimalMerges(variable), minimal);
        Check.is("merges of " + variable, object.merges(variable), pruned);
    }

    /** What the object answers is asked for once, since it has 512 calls and the paths are many. */
    private void alongPaths(int variable) {
        int blocks = paths.blocks();
        int[] beginnings = new int[blocks];
        int[][] uses = new int[blocks][6];
        int[][] operands = new int[blocks][blocks];
        for (int block = 0; block < blocks; block++) {
            if (paths.reachable(block)) {
                beginnings[block] = object.source(block, variable, false);
                for (int action = 0; action < paths.actions(block).size(); action++) {
                    boolean isUse = paths.actions(block).get(action).equals("u" + variable);
                    uses[block][action] = isUse ? object.sourceOfUse(block, action) : -1;
                }
                for (int before : paths.predecessors(block)) {
                    boolean isMerge = beginnings[block] == 1000 + block;
                    operands[block][before] = isMerge ? object.operand(block, variable, before) : -1;
                }
            }
        }
        for (List<Integer> path : paths.from(0)) {
            along(path, variable, beginnings, uses, operands);
        }
    }

    private void along(List<Integer> path, int variable, int[] beginnings, int[][] uses, int[][] operands) {
        int latest = 2000;
        Arrays.fill(merged, -1);
        for (int step = 0; step < path.size(); step++) {
            int block = path.get(step);
            if (step > 0 && operands[block][path.get(step - 1)] >= 0) {
                merged[block] = valueOf(operands[block][path.get(step - 1)]);
                mergesSeen++;
            }
            boolean isLast = step == path.size() - 1;
            if (isLast && paths.live(block, variable)) {
                Check.is("source at the end of " + path, valueOf(beginnings[block]), latest);
            }
            for (int action = 0; action < paths.actions(block).size(); action++) {
                if (isLast && uses[block][action] >= 0) {
                    Check.is("use " + action + " at the end of " + path, valueOf(uses[block][action]), latest);
                }
                boolean isDefinition = paths.actions(block).get(action).equals("d" + variable);
                latest = isDefinition ? 10 * block + action : latest;
            }
        }
    }

    private int valueOf(int source) {
        return source >= 1000 && source < 2000 ? merged[source - 1000] : source;
    }
}
