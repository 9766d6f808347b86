import java.util.function.Consumer;

/** The boundary cases of the promises 23 to 30; ahead of each test stands the sentence it is of. */
public final class ChipBoundaryTest {
    public static void main(String[] args) {
        Bound.runAll(ChipBoundaryTest.class, 23, 30);
    }

    private static Amoebary with(Amoebary x, int... chips) {
        ChipTest.put(x, chips);
        return x;
    }

    private static Amoebary alone(int... chips) {
        return with(new Amoebary(), chips);
    }

    private static Amoebary ring(int vertices, int... chips) {
        return with(ChipTest.ring(vertices), chips);
    }

    private static Amoebary path(int... chips) {
        return with(ChipTest.path(), chips);
    }

    /** Two vertices, 0 and another one, with edges between. */
    private static Amoebary pair(int other, int edges, int... chips) {
        Amoebary x = with(new Amoebary(), chips);
        x.edges(0, other, edges);
        return x;
    }

    /** The vertices 1 and 2 have an edge between, the vertex 0 has none. */
    private static Amoebary besideVertex0() {
        Amoebary x = new Amoebary();
        x.edges(1, 2, 1);
        return x;
    }

    /** A ring of the vertices 0 to 2, and the vertices 3 and 4 with edges between. */
    private static Amoebary twoParts() {
        Amoebary x = ring(3);
        x.edges(3, 4, 3);
        return x;
    }

    // ---- promise 23: edges

    /** "vertex: 0 to 4"; "IndexOutOfBoundsException if there is no such vertex, of either". */
    static void promise23Vertex() {
        Bound.index(4, "edges of", Bound::filled, (x, wrong) -> x.edges(wrong, 2, 1));
    }

    /** "other: 0 to 4"; "IndexOutOfBoundsException if there is no such vertex, of either". */
    static void promise23Other() {
        Bound.index(4, "edges to", Bound::filled, (x, wrong) -> x.edges(3, wrong, 1));
    }

    /** "edges: 0 to 3"; "IllegalArgumentException if ... edges is out of range". */
    static void promise23Edges() {
        Bound.argument(0, 3, "edges", Bound::filled, (x, wrong) -> x.edges(0, 4, wrong));
    }

    /** "IllegalArgumentException if both are one". */
    static void promise23BothAreOne() {
        for (int v = 0; v < 5; v++) {
            int vertex = v;
            Bound.badArgument("no edges of " + v, Bound::filled, x -> x.edges(vertex, vertex, 0));
            Bound.badArgument("an edge of " + v, Bound::filled, x -> x.edges(vertex, vertex, 1));
            Bound.badArgument("four edges of " + v, Bound::filled, x -> x.edges(vertex, vertex, 4));
        }
    }

    /** "If several apply, the one that is named first in the throws clause is thrown." */
    static void promise23FirstNamed() {
        Bound.noSuch("both are one, and no such", Bound::filled, x -> x.edges(5, 5, 1));
        Bound.noSuch("no such vertex, four edges", Bound::filled, x -> x.edges(-1, 0, 4));
        Bound.noSuch("no such other, four edges", Bound::filled, x -> x.edges(0, 5, 4));
    }

    /** "Returns how many there were", "between two vertices": there and back are the same. */
    static void promise23ThereAndBack() {
        for (int i = 0; i < 25; i++) {
            if (i / 5 != i % 5) {
                Amoebary x = new Amoebary();
                Check.due("none", x.edges(i / 5, i % 5, 3), 0);
                Check.due("three", x.edges(i % 5, i / 5, 0), 3);
                Check.due("none again", x.edges(i / 5, i % 5, 1), 0);
                Check.due("of all", x.graph(1), 1);
            }
        }
    }

    // ---- promise 24: chips

    /** "vertex: 0 to 4"; "IndexOutOfBoundsException if there is no such vertex". */
    static void promise24Vertex() {
        Bound.index(4, "chips of", Bound::filled, (x, wrong) -> x.chips(wrong, 1));
        Bound.index(4, "chips without edges of", Amoebary::new, (x, wrong) -> x.chips(wrong, 1));
    }

    /** "chips: -99 to 99"; "IllegalArgumentException if chips is out of range". */
    static void promise24Chips() {
        Bound.argument(-99, 99, "chips", Bound::filled, (x, wrong) -> x.chips(4, wrong));
    }

    /** "If several apply, the one that is named first in the throws clause is thrown." */
    static void promise24FirstNamed() {
        Bound.noSuch("chips", Bound::filled, x -> x.chips(5, 100));
        Bound.noSuch("chips", Bound::filled, x -> x.chips(-1, -100));
    }

    /** "Returns the chips before", at both ends of their range. */
    static void promise24TheChipsBefore() {
        Amoebary x = new Amoebary();
        Check.due("0", x.chips(4, 99), 0);
        Check.due("99", x.chips(4, -99), 99);
        Check.due("-99", x.chips(4, 0), -99);
    }

    // ---- promise 25: chipsAt

    /** "vertex: 0 to 4"; "IndexOutOfBoundsException if there is no such vertex". */
    static void promise25Vertex() {
        Bound.index(4, "chipsAt", Bound::filled, Amoebary::chipsAt);
        Bound.index(4, "chipsAt without edges", Amoebary::new, Amoebary::chipsAt);
    }

    /** "Those of vertices that are not of it do not matter, but stay." */
    static void promise25NotOfTheGraph() {
        Amoebary x = pair(1, 3, -99, 99, 99, -99, 99);
        ChipTest.dueChips("beside the graph", x, -99, 99, 99, -99, 99);
        x.fire(1);
        x.edges(0, 1, 0);
        ChipTest.dueChips("without edges again", x, -96, 96, 99, -99, 99);
    }

    // ---- promise 26: fire

    /** "vertex: 0 to 4"; "IndexOutOfBoundsException if there is no such vertex". */
    static void promise26Vertex() {
        Bound.index(4, "fire", Bound::filled, Amoebary::fire);
        Bound.index(4, "fire without edges", Amoebary::new, Amoebary::fire);
    }

    /** "Without edges nothing changes", however many chips there are. */
    static void promise26WithoutEdges() {
        Amoebary x = alone(99, -99, 99, -99, 0);
        for (int v = 0; v < 5; v++) {
            Check.due("fire(" + v + ")", x.fire(v), x.chipsAt(v));
        }
        ChipTest.dueChips("fire", x, 99, -99, 99, -99, 0);
    }

    /** "If some vertex would have fewer than -99": the one that is fired. */
    static void promise26TooFew() {
        Amoebary x = pair(4, 3, -96);
        Check.due("to -99", x.fire(0), -99);
        ChipTest.dueChips("to -99", x, -99, 0, 0, 0, 3);
        Bound.badState("to -100", () -> pair(4, 3, -97), y -> y.fire(0));
        Bound.badState("to -102", () -> pair(4, 3, -99), y -> y.fire(0));
    }

    /** "If some vertex would have ... more than 99 chips": any that gets some. */
    static void promise26TooMany() {
        for (int v = 1; v < 5; v++) {
            int other = v;
            Amoebary x = pair(other, 3);
            x.chips(other, 96);
            Check.due("to 99", x.fire(0), -3);
            Check.due("to 99", x.chipsAt(other), 99);
            Bound.badState("to 100", () -> {
                Amoebary y = pair(other, 3);
                y.chips(other, 97);
                return y;
            }, y -> y.fire(0));
        }
        Bound.badState("the last of four", () -> with(ChipTest.complete(5, 1), 0, 0, 0, 0, 99),
                x -> x.fire(0));
    }

    /** Vertices that get nothing may have as few, or as many, as there may be. */
    static void promise26OthersDoNotMatter() {
        Amoebary x = path(0, 0, 0, -99, 99);
        Check.due("fire(0)", x.fire(0), -1);
        Check.due("fire(1)", x.fire(1), -1);
        ChipTest.dueChips("fire", x, 0, -1, 1, -99, 99);
        x = ring(3, 99, -3, -3, 99, -99);
        Check.due("one with 99", x.fire(0), 97);
        ChipTest.dueChips("one with 99", x, 97, -2, -2, 99, -99);
    }

    /** Twelve edges are the most that a vertex has. */
    static void promise26TwelveEdges() {
        Amoebary x = with(ChipTest.complete(5, 3), -87, 96, 96, 96, 96);
        Check.due("fire(0)", x.fire(0), -99);
        ChipTest.dueChips("fire(0)", x, -99, 99, 99, 99, 99);
        Bound.badState("one less", () -> with(ChipTest.complete(5, 3), -88), y -> y.fire(0));
    }

    // ---- promise 27: reduced

    /** "at: 0 to 4"; "IndexOutOfBoundsException if there is no such vertex, of either". */
    static void promise27At() {
        Bound.index(4, "reduced at", Bound::filled, (x, wrong) -> x.reduced(wrong, 1));
    }

    /** "vertex: 0 to 4"; "IndexOutOfBoundsException if there is no such vertex, of either". */
    static void promise27Vertex() {
        Bound.index(4, "reduced of", Bound::filled, (x, wrong) -> x.reduced(1, wrong));
    }

    /** "If several apply, the one that is named first in the throws clause is thrown." */
    static void promise27FirstNamed() {
        Bound.noSuch("no such at", ChipBoundaryTest::besideVertex0, x -> x.reduced(5, 4));
        Bound.noSuch("no such vertex", ChipBoundaryTest::besideVertex0, x -> x.reduced(4, 5));
    }

    /** "IllegalStateException if one of both is not of the graph". */
    static void promise27NotOfTheGraph() {
        for (int v = 1; v < 5; v++) {
            int other = v;
            Bound.badState("at, without edges", Amoebary::new, x -> x.reduced(other, 0));
            Bound.badState("vertex, without edges", Amoebary::new, x -> x.reduced(0, other));
            Bound.badState("both, without edges", Amoebary::new, x -> x.reduced(other, other));
        }
        Bound.badState("at, beside a ring", () -> ring(4), x -> x.reduced(4, 3));
        Bound.badState("vertex, beside a ring", () -> ring(4), x -> x.reduced(3, 4));
        Check.due("of the ring", ring(4).reduced(3, 3), 0);
    }

    /** "Or the graph is not connected", the vertex 0 being of it without edges too. */
    static void promise27NotConnected() {
        Bound.badState("0 alone, at 0", ChipBoundaryTest::besideVertex0, x -> x.reduced(0, 0));
        Bound.badState("0 alone, at others", ChipBoundaryTest::besideVertex0, x -> x.reduced(1, 2));
        Bound.badState("two parts, in one", ChipBoundaryTest::twoParts, x -> x.reduced(0, 1));
        Bound.badState("two parts, in the other", ChipBoundaryTest::twoParts, x -> x.reduced(3, 4));
        Bound.badState("two parts, over both", ChipBoundaryTest::twoParts, x -> x.reduced(0, 4));
        Amoebary joined = twoParts();
        joined.edges(2, 3, 1);
        Check.due("joined", joined.reduced(4, 0), 0);
    }

    /** The vertex 0 alone is a graph; "those of vertices that are not of it do not matter". */
    static void promise27Vertex0Alone() {
        Check.due("99", alone(99, -99, -99, -99, -99).reduced(0, 0), 99);
        Check.due("-99", alone(-99, 99, 99, 99, 99).reduced(0, 0), -99);
        Check.due("beside others", pair(1, 1, -99, 99, -99, -99, -99).reduced(0, 0), 0);
    }

    /** "All others of the graph have 0 or more": 0 stays, -1 does not. */
    static void promise27OthersHave0OrMore() {
        ChipTest.dueReduced(pair(1, 3, 5, 0), 0, 5, 0);
        ChipTest.dueReduced(pair(1, 3, 5, -1), 0, 2, 2);
        ChipTest.dueReduced(pair(1, 3, 0, -3), 0, -3, 0);
        ChipTest.dueReduced(pair(1, 3, 0, -4), 0, -6, 2);
    }

    /** "No set of others can be fired so that each of the set has 0 or more then": 0 is enough. */
    static void promise27NoSetCanBeFired() {
        ChipTest.dueReduced(pair(1, 3, 5, 2), 0, 5, 2);
        ChipTest.dueReduced(pair(1, 3, 5, 3), 0, 8, 0);
        ChipTest.dueReduced(ring(3, 0, 1, 0), 0, 0, 1, 0);
        ChipTest.dueReduced(ring(3, 0, 1, 1), 0, 2, 0, 0);
        ChipTest.dueReduced(ring(5, 0, 1, 0, 0, 1), 0, 2, 0, 0, 0, 0);
        ChipTest.dueReduced(ring(5, 0, 0, 1, 1, 0), 0, 2, 0, 0, 0, 0);
        ChipTest.dueReduced(ring(5, 0, 0, 1, 0, 0), 0, 0, 0, 1, 0, 0);
    }

    /** "That is asked for": the one that they are reduced at may have fewer than 0, others not. */
    static void promise27AtMayBeBelow0() {
        ChipTest.dueReduced(ring(4, 0, 0, 0, -1), 0, -2, 1, 0, 0);
        ChipTest.dueReduced(ring(4, 0, 0, 0, -1), 3, 0, 0, 0, -1);
    }

    /** As few and as many chips as there may be; what a vertex would have may be beyond. */
    static void promise27Farthest() {
        ChipTest.dueReduced(path(99, 99, 99, 99, 99), 0, 495, 0, 0, 0, 0);
        ChipTest.dueReduced(path(-99, -99, -99, -99, -99), 4, 0, 0, 0, 0, -495);
        ChipTest.dueReduced(path(-99, 99, -99, 99, -99), 2, 0, 0, -99, 0, 0);
        Amoebary x = with(ChipTest.complete(5, 3), 99, 99, 99, 99, 99);
        ChipTest.dueReduced(x, 0, 495, 0, 0, 0, 0);
        x = with(ChipTest.complete(5, 3), -99, -99, -99, -99, -99);
        ChipTest.dueReduced(x, 4, 0, 0, 0, 0, -495);
    }

    /** "Returns the chips that a vertex would have ...; these stay." */
    static void promise27TheseStay() {
        Amoebary x = ring(3, 99, -99, 5, 7, -7);
        x.reduced(0, 1);
        x.reduced(2, 2);
        ChipTest.dueChips("reduced", x, 99, -99, 5, 7, -7);
    }

    // ---- promise 28: rank

    /** "IllegalStateException if the graph is not connected", whatever chips there are. */
    static void promise28NotConnected() {
        notConnected(Amoebary::rank);
    }

    private static void notConnected(Consumer<Amoebary> run) {
        Bound.badState("0 alone", ChipBoundaryTest::besideVertex0, run);
        Bound.badState("0 alone, below 0", () -> with(besideVertex0(), -99), run);
        Bound.badState("0 alone, above 8", () -> with(besideVertex0(), 99), run);
        Bound.badState("two parts", ChipBoundaryTest::twoParts, run);
    }

    /** "Or the degree is above 8": 8 is not above. */
    static void promise28DegreeAbove8() {
        Check.due("8, 0 alone", alone(8).rank(), 8);
        Bound.badState("9, 0 alone", () -> alone(9), Amoebary::rank);
        Check.due("8, on a path", path(99, -99, 99, -99, 8).rank(), 8);
        Bound.badState("9, on a path", () -> path(99, -99, 99, -99, 9), Amoebary::rank);
        Check.due("8, on all", with(ChipTest.complete(5, 3), 2, 2, 2, 1, 1).rank(), 1);
        Bound.badState("9, on all", () -> with(ChipTest.complete(5, 3), 2, 2, 2, 2, 1), Amoebary::rank);
        Bound.badState("495", () -> path(99, 99, 99, 99, 99), Amoebary::rank);
    }

    /** "Those of vertices that are not of it do not matter": of the degree neither. */
    static void promise28NotOfTheGraph() {
        Check.due("too many beside it", alone(8, 99, 99, 99, 99).rank(), 8);
        Check.due("too few beside it", alone(8, -99, -99, -99, -99).rank(), 8);
        Check.due("beside a ring", ring(3, 0, 0, 2, 99, -99).rank(), 1);
        Bound.badState("9, and fewer beside it", () -> alone(9, -99), Amoebary::rank);
    }

    /** "-1, if none ALIKE has 0 or more chips everywhere". */
    static void promise28NoneAlike() {
        Check.due("-1, 0 alone", alone(-1).rank(), -1);
        Check.due("-99, 0 alone", alone(-99).rank(), -1);
        Check.due("-1, on a path", path(99, -99, 99, -99, -1).rank(), -1);
        Check.due("-495", path(-99, -99, -99, -99, -99).rank(), -1);
        Check.due("0, not alike none", pair(1, 3, 1, -1).rank(), -1);
        Check.due("0, not alike none", pair(1, 3, 2, -2).rank(), -1);
        Check.due("1, but on no vertex", pair(1, 3, 3, -2).rank(), 0);
        Check.due("1, on none", pair(1, 3, -1, 2).rank(), -1);
    }

    /** No chips, or those that are ALIKE: nothing can be taken away. */
    static void promise28NoChips() {
        Check.due("0 alone", alone(0).rank(), 0);
        Check.due("on a path", path(1, -1, 1, -1, 0).rank(), 0);
        Check.due("on two", pair(1, 3, 3, -3).rank(), 0);
        Check.due("on a ring", ring(3, -2, 1, 1).rank(), 0);
        Check.due("on all", ChipTest.complete(5, 3).rank(), 0);
    }

    /** "Whatever r chips are taken away, from whatever vertices": one way that fails is enough. */
    static void promise28WhateverIsTaken() {
        Check.due("on the vertex 0 alone", pair(4, 2, 1).rank(), 0);
        Check.due("two on one", pair(4, 2, 2).rank(), 1);
        Check.due("one on each", pair(4, 2, 1, 0, 0, 0, 1).rank(), 1);
        Check.due("two on one, three edges", pair(4, 3, 2).rank(), 0);
        Check.due("one on each, three edges", pair(4, 3, 1, 0, 0, 0, 1).rank(), 1);
    }

    /** "The greatest r" goes by the chips and the edges alone, not by what was told of others. */
    static void promise28AfterOthers() {
        Amoebary x = with(ChipTest.complete(5, 3), 2, 2, 2, 1, 1);
        Check.due("eight on all", x.rank(), 1);
        for (int v = 0; v < 5; v++) {
            for (int w = v + 1; w < 5; w++) {
                x.edges(v, w, w < 3 ? 1 : 0);
            }
        }
        ChipTest.put(x, 3, 0, 0);
        Check.due("three on a ring", x.rank(), 2);
        ChipTest.put(x, 8, 0, 0);
        Check.due("eight on a ring", x.rank(), 7);
        ChipTest.put(x, -1, 0, 0);
        Check.due("below 0", x.rank(), -1);
        ChipTest.put(x, 1, 0, 0);
        Check.due("one on a ring", x.rank(), 0);
    }

    /** "These stay": telling of the rank changes nothing. */
    static void promise28ChipsStay() {
        Amoebary x = ring(3, 99, -99, 5, 7, -7);
        x.rank();
        x.restRank();
        ChipTest.dueChips("rank", x, 99, -99, 5, 7, -7);
    }

    // ---- promise 29: restRank

    /** "IllegalStateException if the graph is not connected", whatever chips there are. */
    static void promise29NotConnected() {
        notConnected(Amoebary::restRank);
    }

    /** "Or the degree of the rest is above 8": 8 is not above; that of the chips does not matter. */
    static void promise29DegreeAbove8() {
        Check.due("8, 0 alone", alone(-10).restRank(), 8);
        Bound.badState("9, 0 alone", () -> alone(-11), Amoebary::restRank);
        Check.due("8, on a path", path(-99, 99, -99, 99, -10).restRank(), 8);
        Bound.badState("9, on a path", () -> path(-99, 99, -99, 99, -11), Amoebary::restRank);
        Check.due("8, on all", with(ChipTest.complete(5, 3), 8, 8, 8, 9, 9).restRank(), 1);
        Bound.badState("9, on all", () -> with(ChipTest.complete(5, 3), 8, 8, 8, 8, 9),
                Amoebary::restRank);
        Bound.badState("50, on all without chips", () -> ChipTest.complete(5, 3), Amoebary::restRank);
        Check.due("a rest of -497", path(99, 99, 99, 99, 99).restRank(), -1);
    }

    /** "Those of vertices that are not of it do not matter": of the degree of the rest neither. */
    static void promise29NotOfTheGraph() {
        Check.due("too few beside it", alone(-10, -99, -99, -99, -99).restRank(), 8);
        Check.due("too many beside it", alone(-10, 99, 99, 99, 99).restRank(), 8);
        Check.due("beside a ring", ring(3, 0, 0, -2, 99, -99).restRank(), 1);
    }

    /** "The rest ... has, of each vertex, its edges less 2": the vertex 0 alone has -2. */
    static void promise29WithoutEdges() {
        Check.due("-2", new Amoebary().restRank(), -1);
        Check.due("-1", alone(-1).restRank(), -1);
        Check.due("0", alone(-2).restRank(), 0);
        Check.due("1", alone(-3).restRank(), 1);
    }

    /** The rest of a path is -2, at its ends -1 each; on a ring nothing is the rest of nothing. */
    static void promise29WithoutChips() {
        Check.due("on a path", path().restRank(), -1);
        Check.due("on a path, paid", path(-2).restRank(), 0);
        Check.due("on a ring", ring(5).restRank(), 0);
        Check.due("on two", pair(1, 3).restRank(), 1);
        Check.due("on four", ChipTest.complete(4, 1).restRank(), 2);
        Bound.badState("10, on five", () -> ChipTest.complete(5, 1), Amoebary::restRank);
        Check.due("on five, less two", with(ChipTest.complete(5, 1), 2).restRank(), 3);
    }

    // ---- promise 30: graph

    /** "what: 0 ... 5"; "IllegalArgumentException if what is out of range". */
    static void promise30What() {
        Bound.argument(0, 5, "graph", Bound::filled, Amoebary::graph);
        Bound.argument(0, 5, "graph without edges", Amoebary::new, Amoebary::graph);
    }

    /** "Only vertices that have edges, and the vertex 0, are of it"; "one ... of the vertex 0 alone". */
    static void promise30Vertex0Alone() {
        ChipTest.dueGraph("alone", alone(7, 99, 99, -99, 5), 1, 0, 0, 1, 7, 1);
        Amoebary x = pair(4, 3);
        x.edges(0, 4, 0);
        ChipTest.dueGraph("alone again", x, 1, 0, 0, 1, 0, 1);
    }

    /** "There is none if it is not connected", the vertex 0 being of it without edges too. */
    static void promise30NotConnected() {
        ChipTest.dueGraph("0 alone", with(besideVertex0(), 1, 2, 3, 4, 5), 3, 1, -1, 0, 6, 0);
        Amoebary x = ring(3, 1, 2, 3, 4, 5);
        x.edges(3, 4, 3);
        ChipTest.dueGraph("two parts", x, 5, 6, 2, 0, 15, 0);
        x = ring(4, 1, 2, 3, 4, 5);
        x.edges(3, 0, 0);
        x.edges(0, 1, 0);
        ChipTest.dueGraph("0 beside a path", x, 4, 2, -1, 0, 10, 0);
    }

    /** All edges that there may be, each of several being one of its own. */
    static void promise30AllEdges() {
        for (int edges = 1; edges <= 3; edges++) {
            int trees = 125 * edges * edges * edges * edges;
            Amoebary x = ChipTest.complete(5, edges);
            ChipTest.dueGraph("all", x, 5, 10 * edges, 10 * edges - 4, 1, 0, trees);
        }
    }

    /** Each of several edges makes a tree of its own; a path has just one. */
    static void promise30TreesOfTwoAndOfAPath() {
        for (int other = 1; other < 5; other++) {
            for (int edges = 1; edges <= 3; edges++) {
                ChipTest.dueGraph("two", pair(other, edges), 2, edges, edges - 1, 1, 0, edges);
            }
        }
        ChipTest.dueGraph("a path", path(), 5, 4, 0, 1, 0, 1);
        ChipTest.dueGraph("a ring", ring(5), 5, 5, 1, 1, 0, 5);
    }

    /** "How many chips there are, together, on vertices of the graph", at both ends. */
    static void promise30Degree() {
        Check.due("495", path(99, 99, 99, 99, 99).graph(4), 495);
        Check.due("-495", path(-99, -99, -99, -99, -99).graph(4), -495);
        Check.due("beside it", pair(3, 1, 99, -99, -99, 99, -99).graph(4), 198);
    }
}
