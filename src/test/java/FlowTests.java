/** Promises 15 to 32: dominators, merges, sources and reaching definitions. */
public final class FlowTests {
    public static void main(String[] args) {
        reachable();
        dominators();
        irreducible();
        frontiers();
        live();
        merges();
        cascade();
        sources();
        usesAndOperands();
        needs();
        reaching();
        reachingLoops();
        unreachableCountsNowhere();
        wrongArguments();
        orderOfExceptions();
        Check.end("FlowTests");
    }

    /** A diamond a > b, c > d, then the exit e; f leads into d but can't be reached. */
    private static SsaRepair diamond() {
        return Check.graph(6, "a:d0>bc", "b:d0>d", "c:>d", "d:u0>e", "e:u0", "f:d0>d");
    }

    private static void reachable() {
        SsaRepair x = diamond();
        Check.is("15: e", x.isReachable(4), true);
        Check.is("15: f", x.isReachable(5), false);
        Check.is("15: a", x.isReachable(0), true);
        Check.is("16: of a", x.predecessors(0), 0);
        Check.is("16: of d, without the unreachable f", x.predecessors(3), Check.set(1, 2));
        Check.is("16: of e", x.predecessors(4), Check.set(3));
        x.addEdge(4, 4);
        Check.is("16: of e with a loop", x.predecessors(4), Check.set(3, 4));
        x.addEdge(2, 5);
        Check.is("15: f now", x.isReachable(5), true);
        Check.is("16: of d now", x.predecessors(3), Check.set(1, 2, 5));
        SsaRepair far = Check.graph(14, "a:>n", "n:>m", "m:>l", "l:>k", "k:>j", "j:>i", "i:>h");
        Check.is("15: against the order of numbers", far.isReachable(7), true);
        Check.is("15: not reached", far.isReachable(6), false);
    }

    private static void dominators() {
        SsaRepair x = diamond();
        Check.is("17: a, e", x.dominates(0, 4), true);
        Check.is("17: d, e", x.dominates(3, 4), true);
        Check.is("17: b, d", x.dominates(1, 3), false);
        Check.is("17: e, d", x.dominates(4, 3), false);
        Check.is("17: itself", x.dominates(2, 2), true);
        Check.is("17: a, a", x.dominates(0, 0), true);
        Check.is("18: of b", x.parent(1), 0);
        Check.is("18: of d", x.parent(3), 0);
        Check.is("18: of e", x.parent(4), 3);
        SsaRepair chain = Check.graph(14, "a:>n", "n:>b", "b:>m", "m:>nc", "c:>c");
        Check.is("18: of m", chain.parent(12), 1);
        Check.is("18: of b", chain.parent(1), 13);
        Check.is("18: of c", chain.parent(2), 12);
        Check.is("18: of n", chain.parent(13), 0);
        Check.is("17: n, c", chain.dominates(13, 2), true);
        Check.is("19: of m", chain.frontier(12), Check.set(13));
        Check.is("19: of n", chain.frontier(13), Check.set(13));
        Check.is("19: of c", chain.frontier(2), Check.set(2));
    }

    private static void irreducible() {
        SsaRepair x = Check.graph(4, "a:>bc", "b:>c", "c:>bd");
        Check.is("17: b, c", x.dominates(1, 2), false);
        Check.is("17: c, d", x.dominates(2, 3), true);
        Check.is("18: of c", x.parent(2), 0);
        Check.is("19: of b", x.frontier(1), Check.set(2));
        Check.is("19: of c", x.frontier(2), Check.set(1));
        Check.is("19: of d", x.frontier(3), 0);
    }

    private static void frontiers() {
        SsaRepair x = diamond();
        Check.is("19: of a", x.frontier(0), 0);
        Check.is("19: of b", x.frontier(1), Check.set(3));
        Check.is("19: of d", x.frontier(3), 0);
        SsaRepair loop = Check.graph(3, "a:>b", "b:>bc", "c:>b");
        Check.is("19: of b, itself", loop.frontier(1), Check.set(1));
        Check.is("19: of c", loop.frontier(2), Check.set(1));
    }

    private static void live() {
        SsaRepair x = Check.graph(5, "a:>b", "b:u1d0>c", "c:u0d1>bd", "d:d2u2", "e:u3");
        Check.is("20: use before definition", x.isLive(1, 1), true);
        Check.is("20: defined first", x.isLive(1, 0), false);
        Check.is("20: passes through", x.isLive(0, 1), true);
        Check.is("20: ends at a definition", x.isLive(2, 1), false);
        Check.is("20: use in the block itself", x.isLive(2, 0), true);
        Check.is("20: a definition before the use in its block", x.isLive(3, 2), false);
        Check.is("20: not through it", x.isLive(0, 2), false);
        Check.is("20: use in an unreachable block", x.isLive(0, 3), false);
        Check.is("20: around a loop", Check.graph(4, "a:>b", "b:>c", "c:>bd", "d:u0").isLive(2, 0), true);
    }

    private static void merges() {
        SsaRepair x = diamond();
        Check.is("21: of 0", x.minimalMerges(0), Check.set(3));
        Check.is("22: of 0", x.merges(0), Check.set(3));
        Check.is("21: of 1, only the initial value", x.minimalMerges(1), 0);
        Check.is("23: count", x.mergeCount(), 1);
        Check.define(x, "c:d1d2>d");
        Check.define(x, "e:u0u2");
        Check.is("21: of 1", x.minimalMerges(1), Check.set(3));
        Check.is("22: of 1, not live", x.merges(1), 0);
        Check.is("22: of 2, used at e", x.merges(2), Check.set(3));
        Check.is("23: count of two", x.mergeCount(), 2);
        Check.define(x, "d:d2>e");
        Check.is("22: of 2, defined at d", x.merges(2), 0);
        Check.is("21: of 2, defined at d", x.minimalMerges(2), Check.set(3));
    }

    private static void cascade() {
        SsaRepair x = Check.graph(6, "a:>bc", "b:>de", "c:>f", "d:d0>e", "e:>f", "f:u0");
        Check.is("21: a merge defines too", x.minimalMerges(0), Check.set(4, 5));
        Check.is("22: both", x.merges(0), Check.set(4, 5));
        Check.is("26: operand is a merge", x.operand(5, 0, 4), 1004);
        Check.is("26: operand is the initial value", x.operand(5, 0, 2), 2000);
        SsaRepair loop = Check.graph(3, "a:>b", "b:u0d0>bc", "c:u0");
        Check.is("21: a block in its own frontier", loop.minimalMerges(0), Check.set(1));
    }

    private static void sources() {
        SsaRepair x = Check.graph(6, "a:d0u0d0d1>bc", "b:d0>d", "c:>d", "d:u0u3>e", "e:u1d1u1", "f:>d");
        Check.is("24: beginning of a", x.source(0, 0, false), 2000);
        Check.is("24: end of a", x.source(0, 0, true), 2);
        Check.is("24: beginning of b", x.source(1, 0, false), 2);
        Check.is("24: end of b", x.source(1, 0, true), 10);
        Check.is("24: end of c", x.source(2, 0, true), 2);
        Check.is("24: beginning of d", x.source(3, 0, false), 1003);
        Check.is("24: end of d", x.source(3, 0, true), 1003);
        Check.is("24: beginning of e", x.source(4, 0, false), 1003);
        Check.is("24: variable 3", x.source(4, 3, true), 2000);
        Check.is("24: parent two up", x.source(4, 1, false), 3);
        Check.is("24: end of e", x.source(4, 1, true), 41);
        Check.is("25: before a second definition", x.sourceOfUse(0, 1), 0);
        Check.is("25: merge", x.sourceOfUse(3, 0), 1003);
        Check.is("25: initial", x.sourceOfUse(3, 1), 2000);
        Check.is("25: from above", x.sourceOfUse(4, 0), 3);
        Check.is("25: in the block", x.sourceOfUse(4, 2), 41);
        SsaRepair last = Check.graph(14, "a:>n", "n:u0u1u2u3u0d1>m", "m:u1");
        Check.is("25: block 13, action 5", last.sourceOfUse(12, 0), 135);
        SsaRepair pruned = Check.graph(4, "a:>bc", "b:d0>d", "c:>d", "d:d1");
        Check.is("24: a pruned merge is no source", pruned.source(3, 0, false), 2000);
    }

    private static void usesAndOperands() {
        SsaRepair x = diamond();
        Check.is("26: for b", x.operand(3, 0, 1), 10);
        Check.is("26: for c", x.operand(3, 0, 2), 0);
        Check.fails("26: f is no predecessor", Check.MISSING, () -> x.operand(3, 0, 5));
        Check.fails("26: d is no predecessor", Check.MISSING, () -> x.operand(3, 0, 3));
        Check.fails("26: no block 6", Check.MISSING, () -> x.operand(3, 0, 6));
        Check.fails("26: no block 33, which a shift by 33 would take for b", Check.MISSING, () -> x.operand(3, 0, 33));
        Check.fails("26: no block -1", Check.MISSING, () -> x.operand(3, 0, -1));
        Check.fails("26: no merge", Check.MISSING, () -> x.operand(4, 0, 3));
        Check.fails("26: no merge of 1", Check.MISSING, () -> x.operand(3, 1, 1));
        Check.is("27: two", x.differentOperands(3, 0), 2);
        Check.fails("27: no merge", Check.MISSING, () -> x.differentOperands(4, 0));
        Check.fails("27: no merge of 1", Check.MISSING, () -> x.differentOperands(3, 1));
        SsaRepair same = Check.graph(6, "a:>bcd", "b:>e", "c:>e", "d:d0>e", "e:u0");
        Check.is("27: three edges, two operands", same.differentOperands(4, 0), 2);
        SsaRepair loop = Check.graph(4, "a:d1>bc", "b:>c", "c:>bd", "d:u1");
        Check.is("22: merges without a definition below", loop.merges(1), 0);
        Check.is("28: merge", x.usesOf(0, 1003), 2);
        Check.is("28: definition that is only an operand", x.usesOf(0, 10), 0);
        Check.is("28: another variable's", x.usesOf(1, 1003), 0);
        Check.is("28: no such source", x.usesOf(0, 999), 0);
        Check.is("28: no such source, least int", x.usesOf(0, Integer.MIN_VALUE), 0);
        Check.is("28: not the initial value", x.usesOf(0, 2000), 0);
        SsaRepair block = Check.graph(2, "a:u0d0u0u0u1", "b:u0");
        Check.is("28: definition", block.usesOf(0, 1), 2);
        Check.is("28: initial value, reachable blocks alone", block.usesOf(0, 2000), 1);
        Check.is("28: initial value of 1", block.usesOf(1, 2000), 1);
    }

    private static void needs() {
        Check.is("29: all of the diamond", diamond().unneeded(), 0);
        Check.is("29: overwritten and never used", Check.graph(1, "a:d0d0u0d0d1").unneeded(), 3);
        Check.is("29: operand of a pruned merge does not need it",
                Check.graph(4, "a:>bc", "b:d0>d", "c:d0>d", "d:d0u0").unneeded(), 2);
        Check.is("29: operand alone", Check.graph(4, "a:>bc", "b:d0>d", "c:d0>d", "d:u0").unneeded(), 0);
        Check.is("29: of the operand's variable", Check.graph(4, "a:>bc", "b:d0d1>d", "c:d0>d", "d:u0").unneeded(), 1);
        Check.is("29: operand from above", Check.graph(4, "a:d0>bc", "b:d0>d", "c:>d", "d:u0").unneeded(), 0);
        Check.is("29: unreachable", Check.graph(2, "b:d0").unneeded(), 0);
    }

    private static void reaching() {
        SsaRepair x = diamond();
        Check.is("30: at a", x.reachingCount(0, 0), 0);
        Check.is("30: at b", x.reachingCount(1, 0), 1);
        Check.is("30: at d", x.reachingCount(3, 0), 2);
        Check.is("30: at e", x.reachingCount(4, 0), 2);
        Check.is("30: of 1", x.reachingCount(4, 1), 0);
        Check.is("31: first", x.reaching(3, 0, 0), 0);
        Check.is("31: second", x.reaching(3, 0, 1), 10);
        Check.fails("31: third", Check.MISSING, () -> x.reaching(3, 0, 2));
        Check.fails("31: -1", Check.MISSING, () -> x.reaching(3, 0, -1));
        Check.fails("31: least int", Check.MISSING, () -> x.reaching(3, 0, Integer.MIN_VALUE));
        Check.fails("31: at a", Check.MISSING, () -> x.reaching(0, 0, 0));
        Check.is("32: at a", x.isInitialReaching(0, 0), true);
        Check.is("32: at b", x.isInitialReaching(1, 0), false);
        Check.is("32: at d of 1", x.isInitialReaching(3, 1), true);
    }

    private static void reachingLoops() {
        SsaRepair x = Check.graph(4, "a:>b", "b:d0d0>cb", "c:>bd", "d:d0u0");
        Check.is("30: at b, around", x.reachingCount(1, 0), 1);
        Check.is("31: the last of the block", x.reaching(1, 0, 0), 11);
        Check.is("32: at b", x.isInitialReaching(1, 0), true);
        Check.is("32: at c", x.isInitialReaching(2, 0), false);
        Check.is("30: at d, not its own", x.reachingCount(3, 0), 1);
        SsaRepair wide = Check.graph(5, "a:d1>dcb", "b:d1>e", "c:d1>e", "d:>e", "e:d1>e");
        Check.is("30: four", wide.reachingCount(4, 1), 4);
        Check.is("31: ascending, 0", wide.reaching(4, 1, 0), 0);
        Check.is("31: ascending, 1", wide.reaching(4, 1, 1), 10);
        Check.is("31: ascending, 2", wide.reaching(4, 1, 2), 20);
        Check.is("31: ascending, 3", wide.reaching(4, 1, 3), 40);
    }

    private static void unreachableCountsNowhere() {
        SsaRepair x = Check.graph(4, "a:>b", "b:u0", "c:d0>b", "d:u1>cb");
        Check.is("21: no merge from an unreachable block", x.minimalMerges(0), 0);
        Check.is("30: no definition from one", x.reachingCount(1, 0), 0);
        Check.is("25: source", x.sourceOfUse(1, 0), 2000);
        Check.fails("16", Check.STATE, () -> x.predecessors(2));
        Check.fails("17: first", Check.STATE, () -> x.dominates(2, 1));
        Check.fails("17: second", Check.STATE, () -> x.dominates(0, 2));
        Check.fails("18", Check.STATE, () -> x.parent(2));
        Check.fails("19", Check.STATE, () -> x.frontier(2));
        Check.fails("20", Check.STATE, () -> x.isLive(3, 1));
        Check.fails("24", Check.STATE, () -> x.source(2, 0, true));
        Check.fails("25", Check.STATE, () -> x.sourceOfUse(3, 0));
        Check.fails("26", Check.STATE, () -> x.operand(2, 0, 3));
        Check.fails("27", Check.STATE, () -> x.differentOperands(2, 0));
        Check.fails("30", Check.STATE, () -> x.reachingCount(2, 0));
        Check.fails("31", Check.STATE, () -> x.reaching(2, 0, 0));
        Check.fails("32", Check.STATE, () -> x.isInitialReaching(2, 0));
    }

    private static void wrongArguments() {
        SsaRepair x = diamond();
        for (int block : new int[] {-1, 6, 14, 32, Integer.MAX_VALUE, Integer.MIN_VALUE}) {
            Check.fails("15: " + block, Check.INDEX, () -> x.isReachable(block));
            Check.fails("16: " + block, Check.INDEX, () -> x.predecessors(block));
            Check.fails("17: first " + block, Check.INDEX, () -> x.dominates(block, 0));
            Check.fails("17: second " + block, Check.INDEX, () -> x.dominates(0, block));
            Check.fails("18: " + block, Check.INDEX, () -> x.parent(block));
            Check.fails("19: " + block, Check.INDEX, () -> x.frontier(block));
            Check.fails("20: " + block, Check.INDEX, () -> x.isLive(block, 0));
            Check.fails("24: " + block, Check.INDEX, () -> x.source(block, 0, false));
            Check.fails("25: " + block, Check.INDEX, () -> x.sourceOfUse(block, 0));
            Check.fails("25: action " + block, Check.INDEX, () -> x.sourceOfUse(3, block));
            Check.fails("26: " + block, Check.INDEX, () -> x.operand(block, 0, 1));
            Check.fails("27: " + block, Check.INDEX, () -> x.differentOperands(block, 0));
            Check.fails("30: " + block, Check.INDEX, () -> x.reachingCount(block, 0));
            Check.fails("31: " + block, Check.INDEX, () -> x.reaching(block, 0, 0));
            Check.fails("32: " + block, Check.INDEX, () -> x.isInitialReaching(block, 0));
        }
        for (int variable : new int[] {-1, 4, Integer.MAX_VALUE, Integer.MIN_VALUE}) {
            Check.fails("20: variable " + variable, Check.INDEX, () -> x.isLive(0, variable));
            Check.fails("21: " + variable, Check.INDEX, () -> x.minimalMerges(variable));
            Check.fails("22: " + variable, Check.INDEX, () -> x.merges(variable));
            Check.fails("24: variable " + variable, Check.INDEX, () -> x.source(0, variable, true));
            Check.fails("26: variable " + variable, Check.INDEX, () -> x.operand(3, variable, 1));
            Check.fails("27: variable " + variable, Check.INDEX, () -> x.differentOperands(3, variable));
            Check.fails("28: " + variable, Check.INDEX, () -> x.usesOf(variable, 0));
            Check.fails("30: variable " + variable, Check.INDEX, () -> x.reachingCount(0, variable));
            Check.fails("31: variable " + variable, Check.INDEX, () -> x.reaching(0, variable, 0));
            Check.fails("32: variable " + variable, Check.INDEX, () -> x.isInitialReaching(0, variable));
        }
        Check.fails("18: block 0", Check.MISSING, () -> x.parent(0));
        Check.fails("25: a definition", Check.MISSING, () -> x.sourceOfUse(0, 0));
    }

    private static void orderOfExceptions() {
        SsaRepair x = diamond();
        Check.fails("17: unreachable and none", Check.INDEX, () -> x.dominates(5, 6));
        Check.fails("17: none and unreachable", Check.INDEX, () -> x.dominates(6, 5));
        Check.fails("20: unreachable, no variable", Check.INDEX, () -> x.isLive(5, 4));
        Check.fails("24: unreachable, no variable", Check.INDEX, () -> x.source(5, -1, true));
        Check.fails("25: unreachable, no action", Check.INDEX, () -> x.sourceOfUse(5, 1));
        Check.fails("25: unreachable, no use", Check.STATE, () -> x.sourceOfUse(5, 0));
        Check.fails("26: unreachable, no variable", Check.INDEX, () -> x.operand(5, 4, 9));
        Check.fails("26: unreachable, no predecessor", Check.STATE, () -> x.operand(5, 0, 9));
        Check.fails("27: unreachable, no variable", Check.INDEX, () -> x.differentOperands(5, 4));
        Check.fails("30: unreachable, no variable", Check.INDEX, () -> x.reachingCount(5, 4));
        Check.fails("31: unreachable, no variable", Check.INDEX, () -> x.reaching(5, 4, 0));
        Check.fails("31: unreachable, no index", Check.STATE, () -> x.reaching(5, 0, -1));
        Check.fails("32: unreachable, no variable", Check.INDEX, () -> x.isInitialReaching(5, 4));
    }
}
