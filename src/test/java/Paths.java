import java.util.ArrayList;
import java.util.List;
import java.util.Set;
import java.util.TreeSet;

/**
 * The words of the description that speak of paths, answered by listing the paths of a small graph one by one.
 * No path that shows something needs more blocks than LONGEST, for the graphs have fewer.
 */
final class Paths {
    static final int LONGEST = 7;

    private final List<List<String>> actions = new ArrayList<>();
    private final List<List<Integer>> edges = new ArrayList<>();
    private final List<List<List<Integer>>> from = new ArrayList<>();

    /** The lines are those of all blocks, in their order. */
    Paths(String... lines) {
        for (String line : lines) {
            String[] parts = line.substring(2).split(">");
            List<String> found = new ArrayList<>();
            for (int at = 0; at < parts[0].length(); at += 2) {
                found.add(parts[0].substring(at, at + 2));
            }
            List<Integer> targets = new ArrayList<>();
            for (int at = 0; parts.length > 1 && at < parts[1].length(); at++) {
                targets.add(parts[1].charAt(at) - 'a');
            }
            actions.add(found);
            edges.add(targets);
        }
        for (int block = 0; block < lines.length; block++) {
            from.add(new ArrayList<>());
            list(List.of(block), from.get(block));
        }
    }

    private void list(List<Integer> path, List<List<Integer>> found) {
        found.add(path);
        if (path.size() < LONGEST) {
            for (int next : edges.get(last(path))) {
                List<Integer> longer = new ArrayList<>(path);
                longer.add(next);
                list(longer, found);
            }
        }
    }

    static int last(List<Integer> path) {
        return path.get(path.size() - 1);
    }

    List<List<Integer>> from(int block) {
        return from.get(block);
    }

    List<String> actions(int block) {
        return actions.get(block);
    }

    int blocks() {
        return actions.size();
    }

    boolean reachable(int block) {
        return from(0).stream().anyMatch(path -> last(path) == block);
    }

    Set<Integer> predecessors(int block) {
        Set<Integer> found = new TreeSet<>();
        for (int other = 0; other < blocks(); other++) {
            if (reachable(other) && edges.get(other).contains(block)) {
                found.add(other);
            }
        }
        return found;
    }

    boolean dominates(int first, int second) {
        return from(0).stream().filter(path -> last(path) == second).allMatch(path -> path.contains(first));
    }

    int frontier(int block) {
        int set = 0;
        for (int other = 0; other < blocks(); other++) {
            boolean isOfOne = predecessors(other).stream().anyMatch(before -> dominates(block, before));
            if (isOfOne && (!dominates(block, other) || other == block)) {
                set |= 1 << other;
            }
        }
        return set;
    }

    boolean defines(int block, int variable) {
        return actions(block).contains("d" + variable);
    }

    /** Of all sets of blocks, the smallest that contains what it must. */
    int minimal(int variable) {
        int[] frontiers = new int[blocks()];
        int defining = 1;
        for (int block = 0; block < blocks(); block++) {
            frontiers[block] = reachable(block) ? frontier(block) : 0;
            defining |= reachable(block) && defines(block, variable) ? 1 << block : 0;
        }
        int smallest = (1 << blocks()) - 1;
        for (int set = 0; set < 1 << blocks(); set++) {
            if (Integer.bitCount(set) < Integer.bitCount(smallest) && contains(set, defining | set, frontiers)) {
                smallest = set;
            }
        }
        return smallest;
    }

    private static boolean contains(int set, int blocks, int[] frontiers) {
        boolean all = true;
        for (int block = 0; block < frontiers.length; block++) {
            all &= (blocks >> block & 1) == 0 || (frontiers[block] & ~set) == 0;
        }
        return all;
    }

    /** Whether no block of the path but its last one, from the given place on, defines the variable. */
    private boolean open(List<Integer> path, int start, int variable) {
        return path.subList(start, path.size() - 1).stream().noneMatch(block -> defines(block, variable));
    }

    boolean live(int block, int variable) {
        return from(block).stream().anyMatch(path -> open(path, 0, variable) && usesFirst(last(path), variable));
    }

    private boolean usesFirst(int block, int variable) {
        int use = actions(block).indexOf("u" + variable);
        return use >= 0 && !actions(block).subList(0, use).contains("d" + variable);
    }

    Set<Integer> reaching(int block, int variable) {
        Set<Integer> found = new TreeSet<>();
        for (int start = 0; start < blocks(); start++) {
            int definition = actions(start).lastIndexOf("d" + variable);
            if (reachable(start) && definition >= 0 && from(start).stream().anyMatch(
                    path -> path.size() > 1 && last(path) == block && open(path, 1, variable))) {
                found.add(10 * start + definition);
            }
        }
        return found;
    }

    boolean initialReaching(int block, int variable) {
        return from(0).stream().anyMatch(path -> last(path) == block && open(path, 0, variable));
    }

    long walks(int block, int choices) {
        return from(0).stream().filter(path -> path.size() == choices + 1 && last(path) == block).count();
    }
}
