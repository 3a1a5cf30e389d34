import java.util.function.ObjIntConsumer;
import java.util.function.Supplier;

/** The sentences of promises 15 to 32: dominators, merges, sources and reaching definitions. */
final class FlowBoundaries {
    private static final Supplier<SsaRepair> RICH = State.RICH;
    private static final Supplier<SsaRepair> FULL = State.FULL;
    private static final Supplier<SsaRepair> FRESH = State.FRESH;
    /** The number of the unreachable block of RICH. */
    private static final int AWAY = 5;
    private static final String NO_BLOCK = "Throws `IndexOutOfBoundsException` if there is no such block";
    private static final String NO_BLOCK_OR_VARIABLE =
            "Throws `IndexOutOfBoundsException` if there is no such block or variable";
    private static final String NO_VARIABLE = "Throws `IndexOutOfBoundsException` if there is no such variable";
    private static final String UNREACHABLE = "Throws `IllegalStateException` if the block is not reachable";

    private FlowBoundaries() {
    }

    static void test() {
        isReachable();
        predecessors();
        dominates();
        parent();
        frontier();
        isLive();
        minimalMerges();
        merges();
        mergeCount();
        source();
        sourceOfUse();
        operand();
        operandRefused();
        differentOperands();
        usesOf();
        unneeded();
        reachingCount();
        reaching();
        isInitialReaching();
    }

    private static void noSuchBlock(ObjIntConsumer<SsaRepair> call) {
        Doc.says(NO_BLOCK);
        State.refusedOutside("block", 6, Check.INDEX, RICH, call);
        State.refusedOutside("block of 14", 14, Check.INDEX, FULL, call);
        State.refusedOutside("block of 1", 1, Check.INDEX, FRESH, call);
    }

    interface Place {
        void ask(SsaRepair x, int block, int variable);
    }

    private static void noSuchPlace(Place call) {
        Doc.says(NO_BLOCK_OR_VARIABLE);
        State.refusedOutside("block", 6, Check.INDEX, RICH, (x, block) -> call.ask(x, block, 0));
        State.refusedOutside("block of 14", 14, Check.INDEX, FULL, (x, block) -> call.ask(x, block, 0));
        State.refusedOutside("variable", 4, Check.INDEX, RICH, (x, variable) -> call.ask(x, 3, variable));
        State.refusedOutside("variable, unreachable", 4, Check.INDEX, RICH, (x, variable) -> call.ask(x, AWAY, variable));
        State.refused("neither", Check.INDEX, RICH, x -> call.ask(x, 6, 4));
        Doc.says(UNREACHABLE);
        for (int variable = 0; variable < 4; variable++) {
            int of = variable;
            State.refused("variable " + variable, Check.STATE, RICH, x -> call.ask(x, AWAY, of));
            State.refused("the last block, variable " + variable, Check.STATE, FULL, x -> call.ask(x, 13, of));
        }
    }

    private static void noSuchVariable(ObjIntConsumer<SsaRepair> call) {
        Doc.says(NO_VARIABLE);
        State.refusedOutside("variable", 4, Check.INDEX, RICH, call);
        State.refusedOutside("variable of 14 blocks", 4, Check.INDEX, FULL, call);
        State.refusedOutside("variable of a new object", 4, Check.INDEX, FRESH, call);
    }

    private static void unreachable(ObjIntConsumer<SsaRepair> call) {
        Doc.says(UNREACHABLE);
        State.refused("with an edge to a reachable block", Check.STATE, RICH, x -> call.accept(x, AWAY));
        State.refused("with a loop", Check.STATE, FULL, x -> call.accept(x, 13));
        State.refused("with an edge from an unreachable one", Check.STATE, FULL, x -> call.accept(x, 12));
        SsaRepair cut = RICH.get();
        cut.removeEdge(0, 1);
        Check.fails("cut off by a change", Check.STATE, () -> call.accept(cut, 1));
        cut.undo();
        Check.is("reached again by undo", Check.answer(asking(cut, call)), "nothing");
    }

    private static Supplier<Object> asking(SsaRepair x, ObjIntConsumer<SsaRepair> call) {
        return () -> {
            call.accept(x, 1);
            return "nothing";
        };
    }

    private static void isReachable() {
        Doc.promise(15);
        Doc.says("Returns whether a block is reachable.", "Returns true if it is.");
        SsaRepair x = Check.graph(14, "a:>n", "n:>m", "m:>n", "b:>nb", "c:>b");
        for (int block = 0; block < 14; block++) {
            Check.is("block " + block, x.isReachable(block), block == 0 || block >= 12);
        }
        Check.is("block 0 of a new object", new SsaRepair().isReachable(0), true);
        noSuchBlock(SsaRepair::isReachable);
    }

    private static void predecessors() {
        Doc.promise(16);
        Doc.says("Returns the predecessors of a block.", "Returns the set of blocks.");
        SsaRepair x = Check.graph(14, "a:>bcn", "b:>n", "c:>n", "n:>n", "d:>n", "m:>nb");
        Check.is("none of block 0", x.predecessors(0), 0);
        Check.is("one, without an unreachable one", x.predecessors(1), 1);
        Check.is("the block itself too", x.predecessors(13), Check.set(0, 1, 2, 13));
        noSuchBlock(SsaRepair::predecessors);
        unreachable(SsaRepair::predecessors);
    }

    private static void dominates() {
        Doc.promise(17);
        Doc.says("Returns whether a block dominates another one or the same.",
                "Returns true if the first one dominates the second one.");
        SsaRepair x = RICH.get();
        String[] due = {"11111", "01000", "00100", "00011", "00001"};
        for (int first = 0; first < 5; first++) {
            for (int second = 0; second < 5; second++) {
                Check.is(first + ", " + second, x.dominates(first, second), due[first].charAt(second) == '1');
            }
        }
        Check.is("one block alone", new SsaRepair().dominates(0, 0), true);
        Doc.says(NO_BLOCK);
        State.refusedOutside("first", 6, Check.INDEX, RICH, (y, block) -> y.dominates(block, 0));
        State.refusedOutside("second", 6, Check.INDEX, RICH, (y, block) -> y.dominates(0, block));
        State.refusedOutside("first, and the second is unreachable", 6, Check.INDEX, RICH,
                (y, block) -> y.dominates(block, AWAY));
        State.refusedOutside("second, and the first is unreachable", 6, Check.INDEX, RICH,
                (y, block) -> y.dominates(AWAY, block));
        State.refusedOutside("both", 14, Check.INDEX, FULL, (y, block) -> y.dominates(block, block));
        Doc.says("Throws `IllegalStateException` if one of both is not reachable");
        State.refused("first", Check.STATE, RICH, y -> y.dominates(AWAY, 0));
        State.refused("second", Check.STATE, RICH, y -> y.dominates(0, AWAY));
        State.refused("the same", Check.STATE, RICH, y -> y.dominates(AWAY, AWAY));
    }

    private static void parent() {
        Doc.promise(18);
        Doc.says("Returns the parent of a block.", "Returns the parent.");
        SsaRepair x = Check.graph(14, "a:>n", "n:>m", "m:>bn", "b:>bc");
        Check.is("of the last block", x.parent(13), 0);
        Check.is("of a block above it", x.parent(12), 13);
        Check.is("of a block below it", x.parent(1), 12);
        noSuchBlock(SsaRepair::parent);
        unreachable(SsaRepair::parent);
        Doc.says("Throws `NoSuchElementException` if it is block 0");
        State.refused("of six", Check.MISSING, RICH, y -> y.parent(0));
        State.refused("of one", Check.MISSING, FRESH, y -> y.parent(0));
        State.refused("of 14", Check.MISSING, FULL, y -> y.parent(0));
    }

    private static void frontier() {
        Doc.promise(19);
        Doc.says("Returns the frontier of a block.", "Returns the set of blocks.");
        SsaRepair x = Check.graph(14, "a:>bn", "b:>nc", "c:>bn", "n:>n");
        Check.is("empty for block 0", x.frontier(0), 0);
        Check.is("with the block itself", x.frontier(1), Check.set(1, 13));
        Check.is("without the block itself", x.frontier(2), Check.set(1, 13));
        Check.is("of a loop of the last block", x.frontier(13), Check.set(13));
        Check.is("of one block", new SsaRepair().frontier(0), 0);
        noSuchBlock(SsaRepair::frontier);
        unreachable(SsaRepair::frontier);
    }

    private static void isLive() {
        Doc.promise(20);
        Doc.says("Returns whether a variable is live at the beginning of a block.", "Returns true if it is.");
        SsaRepair x = Check.graph(14, "a:u0d1u1>n", "n:u3>m", "m:d3u3d2>nl", "l:u2u3");
        Check.is("used in the block", x.isLive(0, 0), true);
        Check.is("not behind it", x.isLive(13, 0), false);
        Check.is("defined before the use", x.isLive(0, 1), false);
        Check.is("used in the last block", x.isLive(13, 3), true);
        Check.is("used behind block 0", x.isLive(0, 3), true);
        Check.is("defined on the way", x.isLive(12, 3), false);
        Check.is("defined on the way from above", x.isLive(13, 2), false);
        Check.is("no use", new SsaRepair().isLive(0, 3), false);
        SsaRepair down = Check.graph(14, "a:>n", "n:>k", "k:>h", "h:>e", "e:>b", "b:u2");
        Check.is("against the order of numbers", down.isLive(13, 2), true);
        noSuchPlace(SsaRepair::isLive);
    }

    private static void minimalMerges() {
        Doc.promise(21);
        Doc.says("Returns the minimal merges of a variable.", "Returns the set of blocks.");
        SsaRepair x = RICH.get();
        Check.is("of 0", x.minimalMerges(0), Check.set(3));
        Check.is("of 1, which is not live", x.minimalMerges(1), Check.set(3));
        Check.is("of 3, which has no definition", x.minimalMerges(3), 0);
        SsaRepair last = Check.graph(14, "a:>bn", "b:d3>n", "n:>n");
        Check.is("of 3 at the last block", last.minimalMerges(3), Check.set(13));
        Check.is("of a new object", new SsaRepair().minimalMerges(0), 0);
        noSuchVariable(SsaRepair::minimalMerges);
    }

    private static void merges() {
        Doc.promise(22);
        Doc.says("Returns the pruned merges of a variable.", "Returns the set of blocks.");
        SsaRepair x = RICH.get();
        Check.is("of 0", x.merges(0), Check.set(3));
        Check.is("of 1, which is not live", x.merges(1), 0);
        Check.is("of 3, which has no definition", x.merges(3), 0);
        SsaRepair last = Check.graph(14, "a:>bn", "b:d3>n", "n:u3>n");
        Check.is("of 3 at the last block", last.merges(3), Check.set(13));
        Check.is("of a new object", new SsaRepair().merges(0), 0);
        noSuchVariable(SsaRepair::merges);
    }

    private static void mergeCount() {
        Doc.promise(23);
        Doc.says("Returns the number of merges of all variables.", "Returns the number.");
        Check.is("of a new object", new SsaRepair().mergeCount(), 0);
        Check.is("one of three minimal merges", RICH.get().mergeCount(), 1);
        SsaRepair x = Check.graph(14, "a:d0d1d2d3>bc", "b:d0d1d2d3>d", "c:>dn", "d:u0u1u2u3>n", "n:u0u1u2u3>d");
        Check.is("of four variables in two blocks", x.mergeCount(), 8);
    }

    private static void source() {
        Doc.promise(24);
        Doc.says("Returns the source of a variable at the beginning or at the end of a block.",
                "Returns the number of the source.");
        SsaRepair x = Check.graph(14, "a:d3d0>bn", "b:>n", "n:u0d0u1d1u2d0>n");
        Check.is("initial value", x.source(0, 0, false), 2000);
        Check.is("first definition of block 0", x.source(0, 3, true), 0);
        Check.is("beginning of the last block", x.source(13, 0, false), 1013);
        Check.is("end of the last block", x.source(13, 0, true), 135);
        Check.is("not yet at its beginning", x.source(1, 0, false), 1);
        Check.is("passes through", x.source(13, 3, true), 0);
        Check.is("of one block", new SsaRepair().source(0, 3, true), 2000);
        noSuchPlace((y, block, variable) -> y.source(block, variable, true));
        noSuchPlace((y, block, variable) -> y.source(block, variable, false));
    }

    private static void sourceOfUse() {
        Doc.promise(25);
        Doc.says("Returns the source of a use.", "Returns the number of the source.");
        SsaRepair x = Check.graph(14, "a:u0d0u0d0u0>bn", "b:d1>n", "n:u1d1d1d1d1u1>n");
        Check.is("before all definitions", x.sourceOfUse(0, 0), 2000);
        Check.is("between two", x.sourceOfUse(0, 2), 1);
        Check.is("behind all", x.sourceOfUse(0, 4), 3);
        Check.is("first of the last block", x.sourceOfUse(13, 0), 1013);
        Check.is("sixth of the last block", x.sourceOfUse(13, 5), 134);
        Doc.says("Throws `IndexOutOfBoundsException` if there is no such block or action");
        State.refusedOutside("block", 6, Check.INDEX, RICH, (y, block) -> y.sourceOfUse(block, 0));
        State.refusedOutside("block of 14", 14, Check.INDEX, FULL, (y, block) -> y.sourceOfUse(block, 1));
        State.refusedOutside("action", 1, Check.INDEX, RICH, (y, action) -> y.sourceOfUse(3, action));
        State.refusedOutside("action, unreachable", 1, Check.INDEX, RICH, (y, action) -> y.sourceOfUse(AWAY, action));
        State.refusedOutside("action of 6", 6, Check.INDEX, FULL, (y, action) -> y.sourceOfUse(1, action));
        Doc.says(UNREACHABLE);
        State.refused("a use", Check.STATE, FULL, y -> y.sourceOfUse(13, 0));
        State.refused("not a use", Check.STATE, RICH, y -> y.sourceOfUse(AWAY, 0));
        Doc.says("Throws `NoSuchElementException` if the action is not a use");
        State.refused("first", Check.MISSING, RICH, y -> y.sourceOfUse(0, 0));
        State.refused("second", Check.MISSING, RICH, y -> y.sourceOfUse(4, 1));
        State.refused("of variable 2", Check.MISSING, FULL, y -> y.sourceOfUse(1, 4));
    }

    private static void operand() {
        Doc.promise(26);
        Doc.says("Returns the operand of a merge for a predecessor.", "Returns the number of the source.");
        SsaRepair x = Check.graph(14, "a:>bcn", "b:d2>n", "c:>n", "n:u2>n");
        Check.is("definition", x.operand(13, 2, 1), 10);
        Check.is("initial value", x.operand(13, 2, 2), 2000);
        Check.is("block 0", x.operand(13, 2, 0), 2000);
        Check.is("the merge itself", x.operand(13, 2, 13), 1013);
        noSuchPlace((y, block, variable) -> y.operand(block, variable, 1));
        noSuchPlace((y, block, variable) -> y.operand(block, variable, 6));
    }

    private static void operandRefused() {
        Doc.promise(26);
        Doc.says("Throws `NoSuchElementException` if the block is not a merge of the variable, "
                + "or there is no such predecessor");
        State.refused("no merge", Check.MISSING, RICH, y -> y.operand(4, 0, 3));
        State.refused("a minimal merge that is not live", Check.MISSING, RICH, y -> y.operand(3, 1, 1));
        State.refused("of another variable", Check.MISSING, RICH, y -> y.operand(3, 3, 1));
        State.refused("block 0", Check.MISSING, RICH, y -> y.operand(0, 0, 0));
        State.refused("no merge and no predecessor", Check.MISSING, RICH, y -> y.operand(4, 0, 6));
        State.refused("not a predecessor", Check.MISSING, RICH, y -> y.operand(3, 0, 0));
        State.refused("the block itself, which is none", Check.MISSING, RICH, y -> y.operand(3, 0, 3));
        State.refused("an unreachable block with an edge to it", Check.MISSING, RICH, y -> y.operand(3, 0, AWAY));
        State.refusedOutside("no block", 6, Check.MISSING, RICH, (y, block) -> y.operand(3, 0, block));
    }

    private static void differentOperands() {
        Doc.promise(27);
        Doc.says("Returns the number of different operands of a merge.", "Returns the number.");
        Check.is("three", RICH.get().differentOperands(3, 0), 3);
        SsaRepair x = Check.graph(14, "a:>bcd", "b:d0>e", "c:>e", "d:>en", "e:u0>n", "n:u0");
        Check.is("two of three", x.differentOperands(4, 0), 2);
        Check.is("a merge and the initial value", x.differentOperands(13, 0), 2);
        Check.is("block 0 with an operand of its own", Check.graph(3, "a:d0>bc", "b:d0>c", "c:u0")
                .differentOperands(2, 0), 2);
        Check.is("block 0 with the operand of another", Check.graph(4, "a:>bcd", "b:d0>d", "c:>d", "d:u0")
                .differentOperands(3, 0), 2);
        SsaRepair most = Check.graph(14, "a:>bcd", "b:d0>hn", "c:d0>in", "d:d0>en", "e:d0>fn", "f:d0>gn", "g:d0>n",
                "h:d0>n", "i:d0>n", "n:u0d0>n");
        Check.is("nine of nine", most.differentOperands(13, 0), 9);
        noSuchPlace(SsaRepair::differentOperands);
        Doc.says("Throws `NoSuchElementException` if the block is not a merge of the variable");
        State.refused("no merge", Check.MISSING, RICH, y -> y.differentOperands(4, 0));
        State.refused("a minimal merge that is not live", Check.MISSING, RICH, y -> y.differentOperands(3, 1));
        State.refused("of another variable", Check.MISSING, RICH, y -> y.differentOperands(3, 3));
        State.refused("block 0", Check.MISSING, FRESH, y -> y.differentOperands(0, 0));
    }

    private static void usesOf() {
        Doc.promise(28);
        Doc.says("Returns the number of uses of all blocks whose source is a given one of their variable.");
        SsaRepair x = Check.graph(14, "a:u0d0u0u0>bn", "b:u0d1>n", "n:u0u1u1u1u1u1", "m:u0u1");
        Check.is("initial value", x.usesOf(0, 2000), 1);
        Check.is("in three blocks", x.usesOf(0, 1), 4);
        Check.is("merge, without the unreachable block", x.usesOf(1, 1013), 5);
        Check.is("only an operand", x.usesOf(1, 11), 0);
        Doc.says("Returns the number of uses, 0 if there is no such source.");
        int[] none = {0, 2, 9, 10, 135, 136, 140, 999, 1000, 1001, 1013, 1014, 1999, 2001, -1, Integer.MAX_VALUE,
            Integer.MIN_VALUE};
        for (int source : none) {
            Check.is("source " + source, x.usesOf(0, source), 0);
        }
        Check.is("a source of another variable", x.usesOf(1, 1), 0);
        Check.is("of a new object", new SsaRepair().usesOf(0, 2000), 0);
        noSuchVariable((y, variable) -> y.usesOf(variable, 2000));
        noSuchVariable((y, variable) -> y.usesOf(variable, -1));
    }

    private static void unneeded() {
        Doc.promise(29);
        Doc.says("Returns the number of definitions that are not needed: those that are neither the source of a use "
                + "nor an operand of a merge of their variable.", "Returns the number.");
        Check.is("of a new object", new SsaRepair().unneeded(), 0);
        Check.is("source of a use alone", Check.graph(1, "a:d0u0").unneeded(), 0);
        Check.is("operand alone", Check.graph(3, "a:>bc", "b:d0>c", "c:u0").unneeded(), 0);
        Check.is("operand of a minimal merge that is not live", Check.graph(3, "a:>bc", "b:d0>c").unneeded(), 1);
        Check.is("operand of a merge of another variable", Check.graph(3, "a:>bc", "b:d0d1>c", "c:u0").unneeded(), 1);
        Check.is("the use comes before", Check.graph(1, "a:u0d0").unneeded(), 1);
        Check.is("overwritten", Check.graph(1, "a:d0d0d0d0d0u0").unneeded(), 4);
        Check.is("around a loop", Check.graph(2, "a:>b", "b:u0d0>b").unneeded(), 0);
        Check.is("unreachable ones do not count", Check.graph(14, "n:d0d1d2d3>m", "m:d0").unneeded(), 0);
        Check.is("uses in unreachable blocks do not count", Check.graph(2, "a:d0", "b:u0").unneeded(), 1);
        Check.is("used in another block", Check.graph(2, "a:d0>b", "b:u0").unneeded(), 0);
        SsaRepair both = Check.graph(2, "a:d0d1>b", "b:u0u1");
        Check.is("two of one block", both.unneeded(), 0);
        both.removeAction(1, 0);
        Check.is("one of them no longer", both.unneeded(), 1);
        both.removeAction(1, 0);
        Check.is("both no longer", both.unneeded(), 2);
        SsaRepair all = Check.graph(14, "a:d0d0d0d0d0d0>b", "b:d1d1d1d1d1d1>n", "n:d3d3d3d3d3d3");
        Check.is("all", all.unneeded(), 18);
    }

    private static void reachingCount() {
        Doc.promise(30);
        Doc.says("Returns the number of definitions of a variable that reach the beginning of a block.",
                "Returns the number.");
        SsaRepair x = Check.graph(14, "a:d0d0>bn", "b:d0d1>n", "n:d0d1>n", "m:d0d1>n");
        Check.is("none at block 0", x.reachingCount(0, 0), 0);
        Check.is("the last of block 0", x.reachingCount(1, 0), 1);
        Check.is("its own too, without those of unreachable blocks", x.reachingCount(13, 0), 3);
        Check.is("the initial value is none of them", x.reachingCount(13, 1), 2);
        Check.is("none at all", x.reachingCount(13, 2), 0);
        noSuchPlace(SsaRepair::reachingCount);
    }

    private static void reaching() {
        Doc.promise(31);
        Doc.says("Returns a definition that reaches the beginning of a block.",
                "Returns the number of the definition as a source.",
                "- `index`: the index among the reaching definitions of the variable in ascending order of their "
                        + "numbers as sources, from 0");
        Supplier<SsaRepair> made = () -> Check.graph(14, "a:d0d3>nmb", "n:u0u0u0u0u0d3>n", "m:>n", "b:u0d3>n");
        SsaRepair x = made.get();
        int[] due = {1, 11, 135};
        for (int index = 0; index < 3; index++) {
            Check.is("index " + index, x.reaching(13, 3, index), due[index]);
        }
        Check.is("the definition 0", x.reaching(13, 0, 0), 0);
        noSuchPlace((y, block, variable) -> y.reaching(block, variable, 0));
        noSuchPlace((y, block, variable) -> y.reaching(block, variable, -1));
        Doc.says("Throws `NoSuchElementException` if there is no such definition");
        State.refusedOutside("index of three", 3, Check.MISSING, made, (y, index) -> y.reaching(13, 3, index));
        State.refusedOutside("index of none", 0, Check.MISSING, made, (y, index) -> y.reaching(13, 1, index));
        State.refusedOutside("index at block 0", 0, Check.MISSING, RICH, (y, index) -> y.reaching(0, 0, index));
    }

    private static void isInitialReaching() {
        Doc.promise(32);
        Doc.says("Returns whether the initial value of a variable reaches the beginning of a block.",
                "Returns true if it does.");
        SsaRepair x = Check.graph(14, "a:d0>bc", "b:d1>n", "c:d2>n", "n:d2d3>n");
        Check.is("block 0, before its definition", x.isInitialReaching(0, 0), true);
        Check.is("behind block 0", x.isInitialReaching(1, 0), false);
        Check.is("on one of two paths", x.isInitialReaching(13, 1), true);
        Check.is("on the other", x.isInitialReaching(13, 2), true);
        Check.is("before the definition around the loop", x.isInitialReaching(13, 3), true);
        Check.define(x, "b:d2>n");
        Check.is("on no path", x.isInitialReaching(13, 2), false);
        Check.is("of a new object", new SsaRepair().isInitialReaching(0, 3), true);
        noSuchPlace(SsaRepair::isInitialReaching);
    }
}
