/** Promises 23 to 30: edges and chips. */
public final class ChipTest {
    public static void main(String[] args) {
        edges();
        chips();
        fire();
        reduced();
        rank();
        rankOnKnownGraphs();
        restRank();
        graph();
        Check.end("ChipTest");
    }

    static Amoebary ring(int vertices) {
        Amoebary x = new Amoebary();
        for (int v = 0; v < vertices; v++) {
            x.edges(v, (v + 1) % vertices, 1);
        }
        return x;
    }

    static Amoebary path() {
        Amoebary x = new Amoebary();
        for (int v = 0; v < 4; v++) {
            x.edges(v, v + 1, 1);
        }
        return x;
    }

    static Amoebary complete(int vertices, int edges) {
        Amoebary x = new Amoebary();
        for (int v = 0; v < vertices; v++) {
            for (int w = v + 1; w < vertices; w++) {
                x.edges(v, w, edges);
            }
        }
        return x;
    }

    static void put(Amoebary x, int... chips) {
        for (int v = 0; v < chips.length; v++) {
            x.chips(v, chips[v]);
        }
    }

    static void dueChips(String call, Amoebary x, int... chips) {
        for (int v = 0; v < chips.length; v++) {
            Check.due(call + " chips of " + v, x.chipsAt(v), chips[v]);
        }
    }

    private static void edges() {
        Amoebary x = new Amoebary();
        Check.due("edges(1, 4, 3)", x.edges(1, 4, 3), 0);
        Check.due("edges(4, 1, 2)", x.edges(4, 1, 2), 3);
        Check.due("edges(1, 4, 0)", x.edges(1, 4, 0), 2);
        Check.due("edges(1, 4, 0)", x.edges(1, 4, 1), 0);
        for (int wrong : new int[] {-1, 5, Integer.MAX_VALUE, Integer.MIN_VALUE}) {
            Check.noSuch("edges from " + wrong, () -> x.edges(wrong, 0, 1));
            Check.noSuch("edges to " + wrong, () -> x.edges(0, wrong, 1));
            Check.noSuch("edges of one " + wrong, () -> x.edges(wrong, wrong, 4));
        }
        Check.badArgument("edges(2, 2, 1)", () -> x.edges(2, 2, 1));
        Check.badArgument("edges(2, 2, 0)", () -> x.edges(2, 2, 0));
        Check.badArgument("edges(1, 4, 4)", () -> x.edges(1, 4, 4));
        Check.badArgument("edges(1, 4, -1)", () -> x.edges(1, 4, -1));
        Check.due("what stays", x.edges(1, 4, 0), 1);
        Check.due("none elsewhere", x.graph(1), 0);
    }

    private static void chips() {
        Amoebary x = new Amoebary();
        Check.due("chips(4, 99)", x.chips(4, 99), 0);
        Check.due("chips(4, -99)", x.chips(4, -99), 99);
        Check.due("chips(0, 7)", x.chips(0, 7), 0);
        Check.due("chipsAt(4)", x.chipsAt(4), -99);
        for (int wrong : new int[] {-1, 5, Integer.MAX_VALUE}) {
            Check.noSuch("chips of " + wrong, () -> x.chips(wrong, 100));
            Check.noSuch("chipsAt of " + wrong, () -> x.chipsAt(wrong));
        }
        Check.badArgument("chips(4, 100)", () -> x.chips(4, 100));
        Check.badArgument("chips(4, -100)", () -> x.chips(4, -100));
        dueChips("what stays", x, 7, 0, 0, 0, -99);
    }

    private static void fire() {
        Amoebary x = new Amoebary();
        put(x, 1, 2, 3, 4, 5);
        Check.due("fire without edges", x.fire(3), 4);
        x.edges(0, 1, 2);
        x.edges(0, 2, 3);
        Check.due("fire(0)", x.fire(0), -4);
        dueChips("fire(0)", x, -4, 4, 6, 4, 5);
        Check.due("fire(2)", x.fire(2), 3);
        dueChips("fire(2)", x, -1, 4, 3, 4, 5);
        put(x, -94, 97, 96);
        Check.due("to the limits", x.fire(0), -99);
        dueChips("to the limits", x, -99, 99, 99, 4, 5);
        put(x, -95, 97, 96);
        Check.badState("below the limit", () -> x.fire(0));
        put(x, 0, 98, 96);
        Check.badState("above the limit", () -> x.fire(0));
        put(x, 0, 97, 97);
        Check.badState("above the limit, elsewhere", () -> x.fire(0));
        dueChips("what stays", x, 0, 97, 97, 4, 5);
        Check.noSuch("fire(5)", () -> x.fire(5));
        Check.noSuch("fire(-1)", () -> x.fire(-1));
    }

    static void dueReduced(Amoebary x, int at, int... chips) {
        for (int v = 0; v < chips.length; v++) {
            Check.due("reduced(" + at + ", " + v + ")", x.reduced(at, v), chips[v]);
        }
    }

    private static void reduced() {
        Amoebary x = new Amoebary();
        x.chips(0, -5);
        Check.due("the vertex 0 alone", x.reduced(0, 0), -5);
        Check.badState("at one not of the graph", () -> x.reduced(1, 0));
        Check.badState("of one not of the graph", () -> x.reduced(0, 4));
        Check.noSuch("reduced(5, 0)", () -> x.reduced(5, 0));
        Check.noSuch("reduced(0, 5)", () -> x.reduced(0, 5));
        Check.noSuch("reduced(-1, 0)", () -> x.reduced(-1, 0));
        Check.noSuch("reduced(0, -1)", () -> x.reduced(0, -1));
        Amoebary triangle = ring(3);
        put(triangle, 1, -1, 2, 50, -50);
        dueReduced(triangle, 0, 2, 0, 0);
        dueReduced(triangle, 1, 0, 1, 1);
        dueReduced(triangle, 2, 0, 1, 1);
        dueChips("what stays", triangle, 1, -1, 2, 50, -50);
        Check.badState("of one beside the ring", () -> triangle.reduced(0, 3));
        triangle.edges(3, 4, 1);
        Check.badState("not connected", () -> triangle.reduced(0, 0));
        Check.badState("not connected", () -> triangle.reduced(3, 4));
        Amoebary tree = path();
        put(tree, -99, -99, 99, -99, -99);
        dueReduced(tree, 0, -297, 0, 0, 0, 0);
        dueReduced(tree, 2, 0, 0, -297, 0, 0);
        put(tree, 99, 99, 99, 99, 99);
        dueReduced(tree, 4, 0, 0, 0, 0, 495);
        Amoebary full = complete(5, 3);
        put(full, 0, 0, 3, 6, 9);
        dueReduced(full, 0, 0, 0, 3, 6, 9);
        put(full, 0, 11, 0, 0, 0);
        dueReduced(full, 0, 0, 11, 0, 0, 0);
        put(full, 0, 12, 0, 0, 0);
        dueReduced(full, 0, 3, 0, 3, 3, 3);
        put(full, 0, 3, 6, 9, 12);
        dueReduced(full, 0, 12, 0, 3, 6, 9);
    }

    private static void rank() {
        Amoebary x = new Amoebary();
        Check.due("of no chips", x.rank(), 0);
        x.chips(1, -99);
        Check.due("others do not matter", x.rank(), 0);
        x.chips(0, 8);
        Check.due("the vertex 0 alone", x.rank(), 8);
        x.chips(0, -1);
        Check.due("below 0", x.rank(), -1);
        x.chips(0, 9);
        Check.badState("a degree of 9", () -> x.rank());
        x.edges(1, 2, 1);
        x.chips(0, 0);
        Check.badState("not connected", () -> x.rank());
        Amoebary tree = path();
        put(tree, 99, -99, -99, 99, 8);
        Check.due("of a path", tree.rank(), 8);
        tree.chips(4, -1);
        Check.due("below 0 on a path", tree.rank(), -1);
        tree.chips(4, 9);
        Check.badState("a degree of 9 on a path", () -> tree.rank());
        dueChips("what stays", tree, 99, -99, -99, 99, 9);
        Amoebary triangle = ring(3);
        put(triangle, 1, -1, 2);
        Check.due("of a ring", triangle.rank(), 1);
        put(triangle, 1, -1, 0);
        Check.due("a degree of 0, not alike none", triangle.rank(), -1);
        put(triangle, -2, 1, 1);
        Check.due("a degree of 0, alike none", triangle.rank(), 0);
        put(triangle, 99, -97, 6);
        Check.due("a degree of 8 on a ring", triangle.rank(), 7);
    }

    /** Two vertices with edges between bear a rank of 1 with a chip on each; genus 2 has it so too. */
    private static void rankOnKnownGraphs() {
        Amoebary pair = new Amoebary();
        pair.edges(0, 1, 3);
        put(pair, 1, 1);
        Check.due("a chip on each of two", pair.rank(), 1);
        put(pair, 2, 0);
        Check.due("both on one of two", pair.rank(), 0);
        put(pair, 3, 0);
        Check.due("three on one of two", pair.rank(), 1);
        Amoebary four = complete(4, 1);
        put(four, 1, 1, 1, 1);
        Check.due("the canonical ones of four", four.rank(), 2);
        put(four, 2, 0, 0, 0);
        Check.due("two on one of four", four.rank(), 0);
        put(four, 3, 0, 0, 0);
        Check.due("three on one of four", four.rank(), 1);
        put(four, 0, 0, 0, -1);
        Check.due("below 0 on four", four.rank(), -1);
        Amoebary five = complete(5, 3);
        put(five, 1, 1, 1, 1, 1);
        Check.due("a chip on each of five", five.rank(), 1);
        put(five, 2, 2, 2, 1, 1);
        Check.due("eight on five", five.rank(), 1);
        put(five, 8, 0, 0, 0, 0);
        Check.due("eight on one of five", five.rank(), 0);
    }

    private static void restRank() {
        Amoebary x = new Amoebary();
        Check.due("of the vertex 0 alone", x.restRank(), -1);
        put(x, -2, 77);
        Check.due("just paid", x.restRank(), 0);
        x.chips(0, -10);
        Check.due("a rest of 8", x.restRank(), 8);
        x.chips(0, -11);
        Check.badState("a rest of 9", () -> x.restRank());
        x.edges(1, 2, 1);
        Check.badState("not connected", () -> x.restRank());
        Amoebary triangle = ring(3);
        put(triangle, 1, -1, 2);
        Check.due("of a ring", triangle.restRank(), -1);
        put(triangle, 0, 0, 0);
        Check.due("of a ring without chips", triangle.restRank(), 0);
        put(triangle, 0, -4, -4);
        Check.due("a rest of 8 on a ring", triangle.restRank(), 7);
        triangle.chips(0, -1);
        Check.badState("a rest of 9 on a ring", () -> triangle.restRank());
        Amoebary four = complete(4, 1);
        Check.due("of four without chips", four.restRank(), 2);
        put(four, 1, 1, 1, 1);
        Check.due("of the canonical ones of four", four.restRank(), 0);
        put(four, 9, 0, 0, 0);
        Check.due("the rest of what has no rank", four.restRank(), -1);
        Check.badState("what has no rank", () -> four.rank());
        dueChips("what stays", four, 9, 0, 0, 0);
    }

    static void dueGraph(String call, Amoebary x, int... want) {
        for (int what = 0; what < 6; what++) {
            Check.due(call + " graph(" + what + ")", x.graph(what), want[what]);
        }
    }

    private static void graph() {
        Amoebary x = new Amoebary();
        dueGraph("none", x, 1, 0, 0, 1, 0, 1);
        put(x, 3, 7, -2, 9, 11);
        dueGraph("the vertex 0 alone", x, 1, 0, 0, 1, 3, 1);
        x.edges(1, 2, 2);
        dueGraph("beside the vertex 0", x, 3, 2, 0, 0, 8, 0);
        x.edges(0, 2, 1);
        dueGraph("connected", x, 3, 3, 1, 1, 8, 2);
        x.edges(3, 4, 3);
        dueGraph("in two", x, 5, 6, 2, 0, 28, 0);
        x.edges(3, 2, 3);
        dueGraph("with all", x, 5, 9, 5, 1, 28, 18);
        x.edges(0, 2, 0);
        dueGraph("but the vertex 0", x, 5, 8, 4, 0, 28, 0);
        dueGraph("of five, all", complete(5, 3), 5, 30, 26, 1, 0, 10125);
        dueGraph("of five, each once", complete(5, 1), 5, 10, 6, 1, 0, 125);
        dueGraph("of a ring", ring(5), 5, 5, 1, 1, 0, 5);
        Check.badArgument("graph(6)", () -> x.graph(6));
        Check.badArgument("graph(-1)", () -> x.graph(-1));
        Check.badArgument("graph(max)", () -> x.graph(Integer.MAX_VALUE));
    }
}
