import java.util.Arrays;
import java.util.Random;

/**
 * Long walks through large graphs, before and after jump threading: the value that the merges and the sources hand on
 * along the walk is the last definition on it, wherever the variable is live.
 */
public final class WalkTests {
    private static final int GRAPHS = 1500;
    private static final int CHOICES = 30;

    private final Random random;
    private final int variable;
    private final SsaRepair object;
    private final int[] merged = new int[14];
    private int mergesSeen = 0;

    private WalkTests(long seed) {
        random = new Random(seed);
        variable = random.nextInt(4);
        String[] lines = new String[random.nextInt(7) + 5];
        for (int block = 0; block < lines.length; block++) {
            lines[block] = line(block, lines.length);
        }
        Check.at(Arrays.toString(lines) + ": ");
        object = Check.graph(lines.length, lines);
    }

    public static void main(String[] args) {
        int seen = 0;
        for (int graph = 0; graph < GRAPHS; graph++) {
            WalkTests tests = new WalkTests(graph);
            tests.walk();
            tests.threadAlongEdges();
            tests.walk();
            seen += tests.mergesSeen;
        }
        Check.at("");
        Check.is("walks come to merges", seen > 10 * GRAPHS, true);
        Check.end("WalkTests");
    }

    /** Each block has an edge, so that a walk can go on; most actions are of the variable that is looked at. */
    private String line(int block, int blocks) {
        StringBuilder line = new StringBuilder().append((char) ('a' + block)).append(':');
        for (int action = random.nextInt(3); action > 0; action--) {
            int of = random.nextInt(4) == 0 ? random.nextInt(4) : variable;
            line.append(random.nextInt(3) == 0 ? 'd' : 'u').append(of);
        }
        int first = 1 + random.nextInt(blocks - 1);
        line.append('>').append((char) ('a' + first));
        int second = 1 + random.nextInt(blocks - 1);
        return second == first ? line.toString() : line.append((char) ('a' + second)).toString();
    }

    private void threadAlongEdges() {
        for (int time = 0; time < 2 && object.blockCount() < 14; time++) {
            int from = random.nextInt(object.blockCount());
            int through = object.target(from, random.nextInt(object.edgeCount(from)));
            int to = object.target(through, random.nextInt(object.edgeCount(through)));
            object.thread(from, through, to);
        }
    }

    private void walk() {
        Arrays.fill(merged, -1);
        int merges = object.merges(variable);
        int comings = 0;
        int block = 0;
        for (int choice = 0; choice < CHOICES; choice++) {
            int before = block;
            block = object.walk(random.nextInt(object.edgeCount(before)));
            if ((merges >> block & 1) != 0) {
                merged[block] = valueOf(object.operand(block, variable, before));
                comings++;
            }
            if (object.isLive(block, variable)) {
                Check.is("source at " + block + " after " + (choice + 1) + " choices",
                        valueOf(object.source(block, variable, false)), object.lastOnWalk(variable));
            }
        }
        Check.is("end", object.walkEnd(), block);
        Check.is("merges on the walk", object.mergesOnWalk(variable), comings);
        Check.is("choices", object.clearWalk(), CHOICES);
        mergesSeen += comings;
    }

    private int valueOf(int source) {
        return source >= 1000 && source < 2000 ? merged[source - 1000] : source;
    }
}
