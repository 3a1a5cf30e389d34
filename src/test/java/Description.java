import java.util.List;
import java.util.function.Consumer;
import java.util.function.Supplier;

/** The sentences of the document's description. */
final class Description {
    private static final Supplier<SsaRepair> RICH = State.RICH;
    private static final Supplier<SsaRepair> FULL = State.FULL;

    private Description() {
    }

    static void test() {
        Doc.description();
        blocks();
        edges();
        variablesAndActions();
        reachable();
        dominators();
        merges();
        live();
        pruned();
        sources();
        sourcesOfPlaces();
        reaching();
        threading();
        changes();
        remembered();
        reports();
        walks();
        emptyWalks();
        input();
        lines();
        actionsOfLines();
        errorPositions();
        exceptions();
        questions();
        Doc.says("The constructor and the methods follow, a promise each: the signature, then what it does.");
        Check.is("promises", Doc.promises(), 46);
    }

    private static void blocks() {
        Doc.says("There are 1 to 14 blocks, numbered from 0 and also named by the letters a to n; "
                + "block 0 is the entry.");
        SsaRepair x = Check.graph(14);
        for (int block = 0; block < 14; block++) {
            Check.is("number", Check.define(x, "abcdefghijklmn".charAt(block) + ":"), block);
            Check.is("only block 0 is reached without edges", x.isReachable(block), block == 0);
        }
        for (String line : new String[] {"`:", "o:", "A:", "N:", "0:"}) {
            notALine(14, line, 0);
        }
        notALine(13, "n:", 0);
        notALine(1, "b:", 0);
        Check.fails("no block 14", Check.INDEX, () -> x.actionCount(14));
        Check.fails("no 15 blocks", Check.ARGUMENT, () -> x.reset(15));
        Check.fails("no 0 blocks", Check.ARGUMENT, () -> x.reset(0));
    }

    private static void edges() {
        Doc.says("A block has up to 3 edges, numbered from 0, which lead to different blocks other than block 0.");
        SsaRepair x = Check.graph(5);
        Check.is("first", x.addEdge(0, 4), 0);
        Check.is("second", x.addEdge(0, 1), 1);
        Check.is("third", x.addEdge(0, 2), 2);
        Check.fails("fourth", Check.STATE, () -> x.addEdge(0, 3));
        Check.is("numbered", x.target(0, 0) * 100 + x.target(0, 1) * 10 + x.target(0, 2), 412);
        Check.fails("not different", Check.ARGUMENT, () -> x.addEdge(0, 1));
        Check.fails("block 0", Check.ARGUMENT, () -> x.addEdge(1, 0));
        Check.is("the block itself is another than block 0", x.addEdge(1, 1), 0);
        notALine(5, "a:>bcde", 6);
        notALine(5, "a:>bb", 4);
        notALine(5, "b:>a", 3);
        x.thread(0, 1, 1);
        Check.is("threading keeps the number", x.target(0, 1), 5);
        Check.is("threading adds none", x.edgeCount(0), 3);
    }

    private static void variablesAndActions() {
        Doc.says("There are 4 variables, numbered from 0.");
        SsaRepair x = Check.graph(2, "a:d0d1d2d3>b", "b:u0u1u2u3");
        for (int variable = 0; variable < 4; variable++) {
            Check.is("source of variable " + variable, x.source(1, variable, false), variable);
        }
        Check.fails("no variable 4", Check.INDEX, () -> x.merges(4));
        Check.fails("no variable -1", Check.INDEX, () -> x.merges(-1));
        notALine(2, "a:d4", 3);
        Doc.says("A block has up to 6 actions, numbered from 0; an action is a definition or a use of a variable.");
        SsaRepair y = Check.graph(2, "a:d0u1d2u3d3u0");
        int[] due = {0, 11, 2, 13, 3, 10};
        for (int action = 0; action < 6; action++) {
            Check.is("action " + action, y.action(0, action), due[action]);
        }
        Check.fails("no action 6", Check.INDEX, () -> y.action(0, 6));
        notALine(2, "a:d0u1d2u3d3u0d0", 14);
    }

    private static void reachable() {
        Doc.says("Only blocks that can be reached from block 0 along edges, the reachable ones, count in everything that "
                + "follows; a predecessor of a block is a reachable block with an edge to it.");
        String[] lines = {"a:d0>bc", "b:d0>d", "c:>d", "d:u0"};
        SsaRepair plain = Check.graph(4, lines);
        SsaRepair x = Check.graph(6, lines);
        Check.define(x, "e:u1d0d1u0>df");
        Check.define(x, "f:u1u0d2>de");
        for (int block = 0; block < 4; block++) {
            Check.is("predecessors", x.predecessors(block), plain.predecessors(block));
            Check.is("frontier", x.frontier(block), plain.frontier(block));
            for (int variable = 0; variable < 4; variable++) {
                Check.is("source", x.source(block, variable, true), plain.source(block, variable, true));
                Check.is("live", x.isLive(block, variable), plain.isLive(block, variable));
                Check.is("reaching", x.reachingCount(block, variable), plain.reachingCount(block, variable));
            }
        }
        Check.is("parent of d", x.parent(3), 0);
        for (int variable = 0; variable < 4; variable++) {
            Check.is("minimal merges", x.minimalMerges(variable), plain.minimalMerges(variable));
            Check.is("merges", x.merges(variable), plain.merges(variable));
            Check.is("uses of the initial value", x.usesOf(variable, 2000), plain.usesOf(variable, 2000));
        }
        Check.is("density", x.mergeDensity(), plain.mergeDensity());
        Check.is("unneeded", x.unneeded(), plain.unneeded());
        Check.is("operands", x.differentOperands(3, 0), 2);
        Check.is("walks", x.walks(3, 2), 2L);
    }

    private static void dominators() {
        Doc.says("Block x dominates block y if every path from block 0 to y contains x, where a path contains its first "
                + "and its last block.");
        SsaRepair x = Check.graph(5, "a:>b", "b:>cd", "c:>d", "d:>be");
        Check.is("the first block of each path", x.dominates(0, 4), true);
        Check.is("the last block of each path", x.dominates(4, 4), true);
        Check.is("block 0 and itself", x.dominates(0, 0), true);
        Check.is("on every path", x.dominates(1, 4), true);
        Check.is("on one path of two", x.dominates(2, 4), false);
        Check.is("comes later", x.dominates(3, 1), false);
        Doc.says("The parent of a block other than block 0 is the block that dominates it, is not the block itself, and "
                + "is dominated by all others of this kind.");
        Check.is("not the block itself", x.parent(1), 0);
        Check.is("the lowest of three", x.parent(4), 3);
        Check.is("not a predecessor that a path leaves out", x.parent(3), 1);
        Doc.says("The frontier of a block x consists of the blocks y such that x dominates a predecessor of y, but does "
                + "not dominate y or is y itself.");
        Check.is("y itself", x.frontier(1), Check.set(1));
        Check.is("does not dominate y", x.frontier(2), Check.set(3));
        Check.is("dominates y, which is not x", x.frontier(0), 0);
        Check.is("of a block below a loop", x.frontier(4), 0);
        Check.is("x dominates itself as the predecessor", x.frontier(3), Check.set(1));
        SsaRepair loop = Check.graph(2, "a:>b", "b:>b");
        Check.is("x is y and its predecessor", loop.frontier(1), Check.set(1));
    }

    private static void merges() {
        Doc.says("The defining blocks of a variable are the blocks with a definition of it, and block 0.");
        SsaRepair x = Check.graph(4, "a:>bc", "b:d0u1>d", "c:u0d2>d");
        Check.is("a definition", x.minimalMerges(0), Check.set(3));
        Check.is("a use is none", x.minimalMerges(1), 0);
        Check.is("a definition of another variable is none", x.minimalMerges(3), 0);
        // No edge leads to block 0, so its frontier is empty: its being one shows in the initial value alone.
        Check.is("block 0 gives the initial value", x.source(2, 0, false), 2000);
        Doc.says("The minimal merges of a variable are the blocks of the smallest set that contains the frontiers of all "
                + "its defining blocks and of all blocks of the set.");
        SsaRepair chain = Check.graph(9, "a:>bi", "b:>ch", "c:>dg", "d:d0>e", "e:>f", "f:>g", "g:>h", "h:>i");
        Check.is("frontiers of frontiers", chain.minimalMerges(0), Check.set(6, 7, 8));
        SsaRepair down = Check.graph(14, "a:>nb", "n:d0>m", "b:>mc", "m:>l", "c:>ld", "l:>k", "d:>ke", "k:>j", "e:>j");
        Check.is("against the order of numbers", down.minimalMerges(0), Check.set(12, 11, 10, 9));
        Check.is("the smallest set", Check.graph(3, "a:>bc", "b:>c", "c:>b").minimalMerges(0), 0);
    }

    private static void live() {
        Doc.says("A variable is live at the beginning of a block if there is a path from this block to a block with a use "
                + "of it, such that no definition of it comes before this use: neither earlier in the block of the use, "
                + "nor in an earlier block of the path.");
        SsaRepair x = Check.graph(5, "a:>b", "b:>c", "c:d0u0u1d1d2u3>d", "d:u2u3", "e:u0");
        Check.is("a use two blocks further", x.isLive(0, 1), true);
        Check.is("a definition earlier in the block of the use", x.isLive(0, 0), false);
        Check.is("a definition later in the block of the use", x.isLive(2, 1), true);
        Check.is("a definition in an earlier block", x.isLive(1, 2), false);
        Check.is("a definition in this block", x.isLive(2, 2), false);
        Check.is("behind the definition", x.isLive(3, 2), true);
        Check.is("a use in an earlier block too", x.isLive(0, 3), true);
        Check.is("one of two paths", Check.graph(4, "a:>bc", "b:d0>d", "c:>d", "d:u0").isLive(0, 0), true);
        Check.is("both of two paths", Check.graph(4, "a:>bc", "b:d0>d", "c:d0>d", "d:u0").isLive(0, 0), false);
        Doc.says("The first and the last block of the path can be the same; then the path can consist of this block "
                + "only.");
        Check.is("one block, no edge", Check.graph(1, "a:u0").isLive(0, 0), true);
        Check.is("the block alone of many", x.isLive(3, 3), true);
        Check.is("defined first, then around a loop", Check.graph(2, "a:>b", "b:d0u0>b").isLive(1, 0), false);
        Check.is("no use in it", Check.graph(2, "a:>b", "b:>b").isLive(1, 0), false);
    }

    private static void pruned() {
        SsaRepair x = Check.graph(6, "a:>bc", "b:d0d1>d", "c:>d", "d:u1>e", "e:d0u0>f", "f:u0");
        Doc.says("The pruned merges are the minimal merges at whose beginning the variable is live.");
        Check.is("minimal", x.minimalMerges(0), Check.set(3));
        Check.is("not live at d, though at f", x.merges(0), 0);
        Check.is("live at d", x.merges(1), Check.set(3));
        Check.is("live, but no minimal merge", Check.graph(2, "a:d0>b", "b:u0").merges(0), 0);
        Doc.says("A merge, without such a word, is a pruned merge.");
        Check.is("mergeCount", x.mergeCount(), 1);
        Check.is("source", x.source(3, 0, false), 2000);
        Check.is("source of the merge", x.source(3, 1, false), 1003);
        Check.fails("operand", Check.MISSING, () -> x.operand(3, 0, 1));
        Check.fails("differentOperands", Check.MISSING, () -> x.differentOperands(3, 0));
        Check.is("unneeded", x.unneeded(), 1);
        x.walk(0);
        x.walk(0);
        Check.is("mergesOnWalk", x.mergesOnWalk(0) * 10 + x.mergesOnWalk(1), 1);
        Check.is("mergeDensity", x.mergeDensity(), 1.0 / 24.0);
        x.undo();
        Check.define(x, "f:u3");
        Check.is("addedMerges", x.addedMerges(), 0);
        Check.define(x, "d:>e");
        Check.is("removedMerges", x.removedMerges(), 1);
    }

    private static void sources() {
        Doc.says("A source of a variable is a definition, a merge, or the initial value.");
        SsaRepair x = Check.graph(4, "a:>bc", "b:d0>d", "c:>d", "d:u0");
        Check.is("a definition", x.source(1, 0, true), 10);
        Check.is("a merge", x.source(3, 0, true), 1003);
        Check.is("the initial value", x.source(2, 0, true), 2000);
        Doc.says("It is given by a number: 10 times the block plus the number of the action for a definition, 1000 plus "
                + "the block for a merge, and 2000 for the initial value.");
        Check.is("least definition", Check.graph(1, "a:d0").source(0, 0, true), 0);
        SsaRepair last = Check.graph(14, "a:>bn", "b:d0d1>n", "n:u0u1u2u3u0d0>n");
        Check.is("largest definition", last.source(13, 0, true), 135);
        Check.is("largest merge", last.source(13, 1, false), 1013);
        Check.is("least merge", Check.graph(2, "a:>b", "b:u0d0>b").source(1, 0, false), 1001);
        Check.is("initial value", last.source(13, 3, true), 2000);
    }

    private static void sourcesOfPlaces() {
        SsaRepair x = Check.graph(6, "a:d1>bc", "b:d0d0>d", "c:>d", "d:u0d0u0>e", "e:u0>f", "f:u0u1u2");
        Doc.says("The source at the beginning of a block is its merge, if it has one; otherwise it is the initial value "
                + "for block 0, and the source at the end of the parent for other blocks.");
        Check.is("its merge", x.source(3, 0, false), 1003);
        Check.is("block 0, before its definition", x.source(0, 1, false), 2000);
        Check.is("end of the parent", x.source(4, 0, false), 31);
        Check.is("end of the parent's parent", x.source(5, 0, false), 31);
        Check.is("the parent, not the predecessor", x.source(3, 1, false), 0);
        Doc.says("The source at the end of a block is its last definition of the variable, if it has one, otherwise the "
                + "source at its beginning.");
        Check.is("the last of two", x.source(1, 0, true), 11);
        Check.is("behind a merge", x.source(3, 0, true), 31);
        Check.is("none", x.source(4, 0, true), x.source(4, 0, false));
        Doc.says("The source of a use is the last definition of its variable that comes before it in its block, if there "
                + "is one, otherwise the source at the beginning of the block.");
        Check.is("before the definition", x.sourceOfUse(3, 0), 1003);
        Check.is("behind the definition", x.sourceOfUse(3, 2), 31);
        Check.is("from above", x.sourceOfUse(4, 0), 31);
        Check.is("from block 0", x.sourceOfUse(5, 1), 0);
        Check.is("initial value", x.sourceOfUse(5, 2), 2000);
        Doc.says("The operand of a merge for a predecessor is the source at the end of the predecessor.");
        Check.is("for b", x.operand(3, 0, 1), 11);
        Check.is("for c", x.operand(3, 0, 2), 2000);
        SsaRepair loop = Check.graph(2, "a:>b", "b:u0d0d1>b");
        Check.is("for the block itself, its end", loop.operand(1, 0, 1), 11);
    }

    private static void reaching() {
        Doc.says("A definition reaches a place if there is a path from its block, from behind the definition, to the place "
                + "without another definition of the variable between.");
        SsaRepair x = Check.graph(4, "a:d0d0>b", "b:u0>bc", "c:d0d1>cd", "d:d0");
        Check.is("the last of a block alone", x.reachingCount(1, 0), 1);
        Check.is("which is the second", x.reaching(1, 0, 0), 1);
        Check.is("around its own block, and one from above", x.reachingCount(2, 0), 2);
        Check.is("from above", x.reaching(2, 0, 0), 1);
        Check.is("around", x.reaching(2, 0, 1), 20);
        Check.is("not over another definition", x.reachingCount(3, 0), 1);
        Check.is("not the beginning of its own block without a loop", x.reaching(3, 0, 0), 20);
        Check.is("a definition of another variable between is fine", x.reachingCount(3, 1), 1);
        Check.is("around a longer loop", Check.graph(3, "a:>b", "b:d0>c", "c:>b").reaching(1, 0, 0), 10);
        Doc.says("The initial value reaches a place if there is a path from the beginning of block 0 to the place without "
                + "a definition of the variable.");
        Check.is("the beginning of block 0 itself", x.isInitialReaching(0, 0), true);
        Check.is("over a definition", x.isInitialReaching(1, 0), false);
        Check.is("before a definition", x.isInitialReaching(2, 1), true);
        Check.is("behind a definition", x.isInitialReaching(3, 1), false);
        Check.is("without a definition", x.isInitialReaching(3, 2), true);
    }

    private static void threading() {
        Doc.says("An edge from a block p to a block b and an edge from b to a block t are threaded as follows: a new block, "
                + "with the next number, gets copies of all actions of b and one edge, to t; and the edge of p that leads "
                + "to b leads to the new block instead.");
        threaded("three different", "a:>dc b: c:d0u0d1u1d2u2>be d:>c e:", 3, 2, 4,
                "a:>dc b: c:d0u0d1u1d2u2>be d:>f e: f:d0u0d1u1d2u2>e");
        threaded("the edge in the middle", "a:>bcd b: c:u0>bdc d:", 0, 2, 3, "a:>bed b: c:u0>bdc d: e:u0>d");
        threaded("p is b", "a:>b b:d1>bc c:", 1, 1, 2, "a:>b b:d1>dc c: d:d1>c");
        threaded("b is t", "a:>b b:d1>bc c:", 0, 1, 1, "a:>d b:d1>bc c: d:d1>b");
        threaded("p is b and t", "a:>b b:d1>cb c:", 1, 1, 1, "a:>b b:d1>cd c: d:d1>b");
        threaded("p is t", "a:>b b:>c c:>b", 1, 2, 1, "a:>b b:>d c:>b d:>b");
        threaded("p leads to t before", "a:>cb b:>c c:", 0, 1, 2, "a:>cd b:>c c: d:>c");
        threaded("no actions, unreachable", "a: b:>c c:>b", 1, 2, 1, "a: b:>d c:>b d:>b");
        SsaRepair x = RICH.get();
        Check.is("a number with an old row", x.thread(0, 1, 3), 6);
        Check.is("nothing of the old row", x.actionCount(6) * 10 + x.edgeCount(6), 11);
        Check.is("the next number", x.thread(0, 2, 3), 7);
    }

    private static void threaded(String what, String graph, int from, int through, int to, String due) {
        String[] lines = graph.split(" ");
        SsaRepair x = Check.graph(lines.length, lines);
        x.thread(from, through, to);
        Check.is(what, Check.show(x), due);
    }

    /** One change of each kind, each of which the graph a:>b b:d0>c c: allows. */
    private static List<Consumer<SsaRepair>> kinds() {
        return List.of(x -> Check.define(x, "b:d0>c"), x -> Check.define(x, "c:"), x -> x.removeAction(1, 0),
                x -> x.addEdge(2, 1), x -> x.removeEdge(1, 2), x -> x.thread(0, 1, 2));
    }

    private static SsaRepair three() {
        return Check.graph(3, "a:>b", "b:d0>c");
    }

    private static void changes() {
        Doc.says("A change is a call of define, removeAction, addEdge, removeEdge or thread that returns without an "
                + "exception.");
        String before = Check.show(three());
        for (Consumer<SsaRepair> kind : kinds()) {
            SsaRepair x = three();
            kind.accept(x);
            Check.is("remembered", x.undo(), 2);
            Check.is("undone", Check.show(x), before);
        }
        SsaRepair x = three();
        x.append('a');
        Check.answer(x::define);
        Check.answer(() -> x.removeAction(2, 0));
        Check.answer(() -> x.addEdge(0, 1));
        Check.answer(() -> x.removeEdge(0, 2));
        Check.answer(() -> x.thread(0, 2, 1));
        x.save();
        x.walk(0);
        x.clearWalk();
        Check.is("refused calls and others are none", x.undo(), 1);
    }

    private static void remembered() {
        Doc.says("The object remembers the graphs before the last 8 changes.");
        for (int changes : new int[] {0, 1, 7, 8, 9, 15, 16, 17, 24, 25}) {
            SsaRepair x = Check.graph(2);
            for (int change = 0; change < changes; change++) {
                Check.define(x, "b:" + "u0".repeat(change % 3) + "d" + change % 4);
            }
            int remembered = Math.min(changes, 8);
            for (int left = remembered - 1; left >= 0; left--) {
                Check.is("left of " + changes, x.undo(), left);
            }
            Check.fails("no more of " + changes, Check.MISSING, x::undo);
            int first = changes - remembered - 1;
            Check.is("the oldest of " + changes, Check.show(x),
                    first < 0 ? "a: b:" : "a: b:" + "u0".repeat(first % 3) + "d" + first % 4);
        }
        SsaRepair x = Check.graph(12);
        for (int change = 1; change <= 10; change++) {
            x.addEdge(change, 11);
        }
        x.undo();
        x.undo();
        x.addEdge(0, 11);
        Check.is("an undone change is not one of them", x.undo(), 6);
        x.addEdge(0, 11);
        x.addEdge(0, 10);
        x.addEdge(0, 9);
        Check.is("8 again", x.undo(), 7);
    }

    private static String report(SsaRepair x) {
        return x.addedMerges() + " " + x.removedMerges() + " " + x.changedUses() + " " + x.newlyReachable();
    }

    private static void reports() {
        Doc.says("The report compares the graph with the graph before the latest change that has not been undone, if it is "
                + "remembered; it is empty otherwise.");
        SsaRepair x = Check.graph(12, "b:d0>d", "c:>d", "d:u0", "a:>b");
        Check.is("the latest", report(x), "0 0 0 " + Check.set(1, 3));
        x.addEdge(0, 2);
        Check.is("a later one", report(x), "1 0 1 " + Check.set(2));
        x.removeEdge(2, 3);
        Check.is("one more", report(x), "0 1 1 0");
        x.undo();
        Check.is("the one before the undone one", report(x), "1 0 1 " + Check.set(2));
        x.undo();
        Check.is("the one before two undone ones", report(x), "0 0 0 " + Check.set(1, 3));
        x.addEdge(0, 4);
        Check.is("a new one", report(x), "0 0 0 " + Check.set(4));
        for (int change = 5; change <= 11; change++) {
            x.addEdge(change, 4);
        }
        Check.is("without effect", report(x), "0 0 0 0");
        for (int change = 0; change < 7; change++) {
            x.undo();
        }
        Check.is("the last remembered", report(x), "0 0 0 " + Check.set(4));
        Check.is("none is left", x.undo(), 0);
        Check.is("not remembered", report(x), "0 0 0 0");
        Check.is("new object", report(new SsaRepair()), "0 0 0 0");
        Doc.says("reset and restore forget all changes.");
        SsaRepair reset = RICH.get();
        reset.reset(6);
        Check.is("report after reset", report(reset), "0 0 0 0");
        Check.fails("undo after reset", Check.MISSING, reset::undo);
        SsaRepair restored = RICH.get();
        Check.is("report before restore", report(restored), "1 0 2 0");
        restored.restore();
        Check.is("report after restore", report(restored), "0 0 0 0");
        Check.fails("undo after restore", Check.MISSING, restored::undo);
        restored.addEdge(4, 5);
        Check.is("changes count anew", restored.undo(), 0);
    }

    private static void walks() {
        Doc.says("The walk is a sequence of at most 30 choices, which are numbers of edges.");
        SsaRepair x = Check.graph(3, "a:>bc", "b:>c", "c:>bc");
        for (int choice = 0; choice < 30; choice++) {
            Check.is("choice " + choice, x.walk(choice == 0 || x.walkEnd() == 2 ? 1 : 0), 2);
        }
        Check.fails("one more", Check.STATE, () -> x.walk(1));
        Check.is("choices", x.clearWalk(), 30);
        Doc.says("It begins in block 0, and each choice follows the edge with this number from the block where the walk "
                + "has come to.");
        Check.is("begins", x.walkEnd(), 0);
        Check.is("second edge of a", x.walk(1), 2);
        Check.is("first edge of c", x.walk(0), 1);
        Check.fails("no second edge of b", Check.MISSING, () -> x.walk(1));
        Check.is("first edge of b", x.walk(0), 2);
        Check.is("second edge of c", x.walk(1), 2);
    }

    private static void emptyWalks() {
        Doc.says("The walk becomes empty whenever the graph changes, also by undo, reset and restore.");
        for (Consumer<SsaRepair> kind : kinds()) {
            emptied(kind);
        }
        emptied(SsaRepair::undo);
        emptied(x -> x.reset(3));
        emptied(SsaRepair::restore);
        SsaRepair kept = three();
        kept.walk(0);
        kept.append('a');
        kept.save();
        Check.fails("not a line", Check.ARGUMENT, kept::define);
        Check.fails("no reset", Check.ARGUMENT, () -> kept.reset(0));
        Check.fails("no action", Check.INDEX, () -> kept.removeAction(0, 0));
        Check.is("no change keeps it", kept.walkEnd(), 1);
    }

    private static void emptied(Consumer<SsaRepair> change) {
        SsaRepair x = three();
        x.save();
        x.walk(0);
        x.walk(0);
        change.accept(x);
        Check.is("end", x.walkEnd(), 0);
        Check.is("choices", x.clearWalk(), 0);
    }

    private static void input() {
        Doc.says("The input is a buffer of at most 30 characters.");
        SsaRepair x = Check.graph(2);
        for (int length = 1; length <= 30; length++) {
            Check.is("length", x.append((char) (31 + length)), length);
        }
        Check.fails("one more", Check.STATE, () -> x.append('a'));
        Check.fails("not a line", Check.ARGUMENT, x::define);
        Check.is("empty again", x.append('b'), 1);
    }

    private static void notALine(int blocks, String text, int due) {
        SsaRepair x = Check.graph(blocks);
        Check.type(x, text);
        Check.fails(blocks + " blocks, " + text, Check.ARGUMENT, x::define);
        Check.is(blocks + " blocks, error position of " + text, x.errorPosition(), due);
    }

    private static void aLine(int blocks, String text) {
        SsaRepair x = Check.graph(blocks);
        Check.is(blocks + " blocks, " + text, Check.answer(() -> Check.define(x, text)), "" + (text.charAt(0) - 'a'));
        Check.is(text, Check.show(x).contains(text), true);
    }

    private static void lines() {
        Doc.says("A line consists of the letter of an existing block, a colon, up to 6 actions, and optionally the character "
                + "> and the letters of 1 to 3 different existing blocks other than a; there are no spaces.");
        for (int actions = 0; actions <= 6; actions++) {
            aLine(14, "n:" + "d3".repeat(actions));
            aLine(14, "a:" + "u0".repeat(actions) + ">n");
            aLine(14, "a:" + "u0".repeat(actions) + ">nb");
            aLine(14, "a:" + "u0".repeat(actions) + ">nbc");
            notALine(14, "a:" + "u0".repeat(actions) + ">nbcd", 6 + 2 * actions);
            notALine(14, "a:" + "u0".repeat(actions) + ">", 3 + 2 * actions);
            notALine(14, "a:" + "u0".repeat(actions) + " ", 2 + 2 * actions);
            notALine(14, "a:" + "u0".repeat(actions) + ":", 2 + 2 * actions);
        }
        aLine(1, "a:");
        aLine(1, "a:d0");
        aLine(2, "a:>b");
        aLine(2, "b:>b");
        notALine(1, "b:", 0);
        notALine(1, "a:>", 2);
        notALine(1, "a:>a", 2);
        notALine(1, "a:>b", 2);
        notALine(2, "a:>bb", 4);
        notALine(2, "a:>bc", 4);
        notALine(2, "a:>c", 3);
        notALine(3, "a:>bcb", 5);
        notALine(3, "a:>bcd", 5);
        notALine(14, "a:>o", 3);
        notALine(14, "a:>a", 3);
        notALine(14, "n:>ba", 4);
        notALine(14, "n:>bca", 5);
        notALine(14, "a:u0u0u0u0u0u0u0", 14);
        notALine(14, "a:>bcd>bcd", 6);
        notALine(14, "a:>bd0", 5);
        for (String text : new String[] {" a:d0>b", "a :d0>b", "a: d0>b", "a:d 0>b", "a:d0 >b", "a:d0> b", "a:d0>b "}) {
            notALine(14, text, text.indexOf(' '));
        }
    }

    private static void actionsOfLines() {
        Doc.says("An action is the letter d for a definition or u for a use, and a digit from 0 to 3 for the variable.");
        SsaRepair x = Check.graph(1);
        for (int code = 32; code <= 126; code++) {
            char sign = (char) code;
            if (sign != 'd' && sign != 'u') {
                notALine(1, "a:" + sign + "0", 2);
            }
            if (sign >= '0' && sign <= '3') {
                Check.define(x, "a:d" + sign + "u" + sign);
                Check.is("definition", x.action(0, 0), sign - '0');
                Check.is("use", x.action(0, 1), 10 + sign - '0');
            } else {
                notALine(1, "a:d" + sign, 3);
                notALine(1, "a:u" + sign, 3);
            }
        }
    }

    private static void errorPositions() {
        Doc.says("The error position of a text that is not a line is the smallest index k such that no line starts with the "
                + "first k + 1 characters of it; if there is no such index, it is the length of the text.");
        String longest = "n:d0u1d2u3d0u1>bcn";
        for (int length = 0; length <= longest.length(); length++) {
            String start = longest.substring(0, length);
            boolean isLine = length >= 2 && length <= 14 && length % 2 == 0 || length > 15;
            if (isLine) {
                aLine(14, start);
            } else {
                notALine(14, start, length);
            }
            for (String rest : new String[] {"~", " ", "a", "A", "4", "~".repeat(30 - length)}) {
                if (length < 30 && !(length == 0 && rest.equals("a"))) {
                    notALine(14, start + rest, length);
                }
            }
        }
        notALine(14, "a", 1);
        notALine(14, "ab", 1);
        notALine(14, "a:d0d", 5);
        notALine(14, "a:d0du", 5);
        notALine(14, longest + "m", 18);
        notALine(14, "a:" + "d0".repeat(14), 14);
        notALine(1, "a:" + "d0".repeat(6) + ">", 14);
    }

    private static void exceptions() {
        // Each sentence of the promises that begins with Throws is tested together with these two.
        Doc.says("A method that throws an exception leaves the state unchanged, unless its documentation says otherwise.");
        State.refused("reset", Check.ARGUMENT, RICH, x -> x.reset(0));
        State.refused("append", Check.STATE, FULL, x -> x.append('a'));
        State.refused("removeAction", Check.INDEX, RICH, x -> x.removeAction(1, 1));
        State.refused("addEdge", Check.STATE, FULL, x -> x.addEdge(1, 5));
        State.refused("removeEdge", Check.MISSING, RICH, x -> x.removeEdge(1, 2));
        State.refused("thread", Check.STATE, FULL, x -> x.thread(0, 1, 2));
        State.refused("walk", Check.STATE, FULL, x -> x.walk(0));
        State.refused("undo", Check.MISSING, State.FRESH, SsaRepair::undo);
        State.refused("restore", Check.STATE, State.FRESH, SsaRepair::restore);
        Doc.says("If several exceptions apply, the one that is documented first is thrown.");
        State.refused("append", Check.ARGUMENT, FULL, x -> x.append((char) 127));
        State.refused("addEdge: block before block 0", Check.INDEX, RICH, x -> x.addEdge(6, 0));
        State.refused("addEdge: such an edge before 3 edges", Check.ARGUMENT, FULL, x -> x.addEdge(1, 2));
        State.refused("removeEdge", Check.INDEX, RICH, x -> x.removeEdge(0, 6));
        State.refused("thread: block before edge", Check.INDEX, RICH, x -> x.thread(0, 3, 6));
        State.refused("thread: edge before 14 blocks", Check.MISSING, FULL, x -> x.thread(0, 2, 3));
        State.refused("dominates", Check.INDEX, RICH, x -> x.dominates(5, 6));
        State.refused("sourceOfUse: action before reachable", Check.INDEX, RICH, x -> x.sourceOfUse(5, 1));
        State.refused("sourceOfUse: reachable before use", Check.STATE, RICH, x -> x.sourceOfUse(5, 0));
        State.refused("operand: variable before reachable", Check.INDEX, RICH, x -> x.operand(5, 4, 6));
        State.refused("operand: reachable before merge", Check.STATE, RICH, x -> x.operand(5, 0, 6));
        State.refused("reaching: variable before reachable", Check.INDEX, RICH, x -> x.reaching(5, 4, -1));
        State.refused("reaching: reachable before index", Check.STATE, RICH, x -> x.reaching(5, 0, -1));
        State.refused("walk", Check.STATE, FULL, x -> x.walk(3));
        State.refused("walks", Check.INDEX, RICH, x -> x.walks(6, 31));
        Doc.says("Sets of blocks are bit masks, bit k for block k.");
        SsaRepair x = Check.graph(14, "a:>bn", "b:d0>nm", "n:u0>m", "m:u0>n");
        Check.is("predecessors", x.predecessors(13), 1 << 0 | 1 << 1 | 1 << 12);
        Check.is("frontier", x.frontier(1), 1 << 12 | 1 << 13);
        Check.is("minimal merges", x.minimalMerges(0), 1 << 12 | 1 << 13);
        Check.is("merges", x.merges(0), 1 << 12 | 1 << 13);
        x.addEdge(12, 11);
        Check.is("newly reachable", x.newlyReachable(), 1 << 11);
        Check.is("empty", x.predecessors(0), 0);
    }

    private static void questions() {
        Doc.says("Methods whose documentation does not mention a change only answer a question.");
        State.asked("blockCount", RICH, SsaRepair::blockCount);
        State.asked("errorPosition", RICH, SsaRepair::errorPosition);
        State.asked("actionCount", RICH, x -> x.actionCount(4));
        State.asked("action", RICH, x -> x.action(4, 1));
        State.asked("edgeCount", RICH, x -> x.edgeCount(0));
        State.asked("target", RICH, x -> x.target(0, 1));
        State.asked("isReachable", RICH, x -> x.isReachable(5));
        State.asked("predecessors", RICH, x -> x.predecessors(3));
        State.asked("dominates", RICH, x -> x.dominates(0, 3));
        State.asked("parent", RICH, x -> x.parent(3));
        State.asked("frontier", RICH, x -> x.frontier(3));
        State.asked("isLive", RICH, x -> x.isLive(3, 0));
        State.asked("minimalMerges", RICH, x -> x.minimalMerges(0));
        State.asked("merges", RICH, x -> x.merges(0));
        State.asked("mergeCount", RICH, SsaRepair::mergeCount);
        State.asked("source", RICH, x -> x.source(3, 0, true));
        State.asked("sourceOfUse", RICH, x -> x.sourceOfUse(3, 0));
        State.asked("operand", RICH, x -> x.operand(3, 0, 1));
        State.asked("differentOperands", RICH, x -> x.differentOperands(3, 0));
        State.asked("usesOf", RICH, x -> x.usesOf(0, 1003));
        State.asked("unneeded", RICH, SsaRepair::unneeded);
        State.asked("reachingCount", RICH, x -> x.reachingCount(3, 0));
        State.asked("reaching", RICH, x -> x.reaching(3, 0, 1));
        State.asked("isInitialReaching", RICH, x -> x.isInitialReaching(3, 0));
        State.asked("addedMerges", RICH, SsaRepair::addedMerges);
        State.asked("removedMerges", RICH, SsaRepair::removedMerges);
        State.asked("changedUses", RICH, SsaRepair::changedUses);
        State.asked("newlyReachable", RICH, SsaRepair::newlyReachable);
        State.asked("walkEnd", RICH, SsaRepair::walkEnd);
        State.asked("lastOnWalk", RICH, x -> x.lastOnWalk(0));
        State.asked("mergesOnWalk", RICH, x -> x.mergesOnWalk(0));
        State.asked("walks", RICH, x -> x.walks(4, 30));
        State.asked("mergeDensity", RICH, SsaRepair::mergeDensity);
    }
}
