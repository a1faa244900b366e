/** The sentences of the promises 1 to 8: a new object, what is told, and the network. */
final class TellingSentences {
    private static final Class<IndexOutOfBoundsException> NO_SUCH = IndexOutOfBoundsException.class;
    private static final Class<IllegalArgumentException> OUT_OF_RANGE = IllegalArgumentException.class;
    private static final Class<IllegalStateException> FULL = IllegalStateException.class;
    private static final int NONE = ConvexConduit.NONE;

    private TellingSentences() {
    }

    static void test(Sentences s) {
        newObject(s);
        howManyNodes(s);
        arc(s);
        arcRefuses(s);
        piece(s);
        pieceRefuses(s);
        demand(s);
        demandRefuses(s);
        nodes(s);
        arcs(s);
        capacity(s);
        price(s);
    }

    private static void newObject(Sentences s) {
        s.section("Promise 1: A new object");
        s.says("A network without arcs.", () -> {
            for (int nodes = 2; nodes <= 8; nodes++) {
                int asked = nodes;
                ConvexConduit x = new ConvexConduit(nodes);
                s.due("arcs", x.arcs(), 0);
                s.due("most", x.most(), 0);
                s.due("more of the source", x.more(0), 0);
                s.due("more of the last", x.more(nodes - 1), NONE);
                s.due("cost", x.cost(), 0);
                s.due("driven", x.driven(), 0);
                Sentences.CallOn[] calls = {y -> y.capacity(0), y -> y.price(0, 1), y -> y.flow(0), y -> y.leastOn(0),
                    y -> y.mostOn(0), y -> y.drivenOn(0), y -> y.piece(0, 1, 1)};
                for (Sentences.CallOn call : calls) {
                    s.refuses("no arc 0", NO_SUCH, () -> new ConvexConduit(asked), call);
                }
            }
        });
    }

    private static void howManyNodes(Sentences s) {
        s.says("- `nodes`: how many nodes;", () -> {
            for (int nodes = 2; nodes <= 8; nodes++) {
                s.due("of " + nodes, new ConvexConduit(nodes).nodes(), nodes);
            }
        });
        s.says("less than 2 counts as 2,", () -> {
            for (int told : new int[] {1, 0, -1, -2, -8, -254, -65534, Integer.MIN_VALUE + 3, Integer.MIN_VALUE}) {
                s.due("nodes of " + told, new ConvexConduit(told).nodes(), 2);
                s.due("node 1", new ConvexConduit(told).arc(0, 1, 1, 1), 0);
                s.refuses("no node 2", NO_SUCH, () -> new ConvexConduit(told), x -> x.arc(0, 2, 1, 1));
            }
        });
        s.says("more than 8 as 8", () -> {
            for (int told : new int[] {9, 10, 12, 258, 65538, Integer.MAX_VALUE - 1, Integer.MAX_VALUE}) {
                s.due("nodes of " + told, new ConvexConduit(told).nodes(), 8);
                s.due("node 7", new ConvexConduit(told).arc(0, 7, 1, 1), 0);
                s.refuses("no node 8", NO_SUCH, () -> new ConvexConduit(told), x -> x.arc(0, 8, 1, 1));
            }
        });
    }

    private static void arc(Sentences s) {
        s.section("Promise 2: arc");
        s.says("Tells an arc with one piece.", () -> {
            ConvexConduit x = Networks.oneArc(4, 7);
            s.due("its units", x.capacity(0), 4);
            s.due("the price of the last", x.price(0, 4), 7);
            s.due("a second piece", x.piece(0, 1, 8), 5);
            s.due("a third piece", x.piece(0, 1, 9), 6);
        });
        s.says("- `from`: a node", () -> {
            for (int from = 0; from < 8; from++) {
                ConvexConduit x = new ConvexConduit(8);
                x.arc(from, from == 0 ? 7 : 0, 1, 5);
                x.demand(from, from == 0 ? 7 : 0, 1);
                s.due("from " + from, x.cost(), 5);
            }
        });
        s.says("- `to`: another node", () -> {
            for (int to = 0; to < 8; to++) {
                ConvexConduit x = new ConvexConduit(8);
                x.arc(to == 0 ? 7 : 0, to, 1, 5);
                x.demand(to == 0 ? 7 : 0, to, 1);
                s.due("to " + to, x.cost(), 5);
            }
        });
        s.says("- `width`: 1 to 5", () -> {
            for (int width = 1; width <= 5; width++) {
                s.due("capacity of " + width, Networks.oneArc(width, 3).capacity(0), width);
                s.due("most of " + width, Networks.oneArc(width, 3).most(), width);
            }
        });
        s.says("- `price`: 0 to 99", () -> {
            for (int price = 0; price <= 99; price++) {
                s.due("price", Networks.oneArc(1, price).price(0, 1), price);
                s.due("more", Networks.oneArc(1, price).more(1), price);
            }
        });
        s.says("Returns its number.", () -> {
            ConvexConduit x = new ConvexConduit(2);
            for (int arc = 0; arc < 12; arc++) {
                s.due("number", x.arc(1, 0, 1, 1), arc);
            }
        });
    }

    private static void arcRefuses(Sentences s) {
        s.says("Throws `IndexOutOfBoundsException` if there is no such node", () -> {
            for (int node : Networks.outside(0, 3)) {
                s.refuses("from", NO_SUCH, Networks::bent, x -> x.arc(node, 0, 1, 1));
                s.refuses("to", NO_SUCH, Networks::bent, x -> x.arc(0, node, 1, 1));
            }
        });
        s.says("Throws `IllegalArgumentException` if both nodes are the same", () -> {
            for (int node = 0; node < 4; node++) {
                int same = node;
                s.refuses("node " + node, OUT_OF_RANGE, Networks::bent, x -> x.arc(same, same, 1, 1));
            }
        });
        s.says(", or width", () -> {
            for (int width : Networks.outside(1, 5)) {
                s.refuses("width " + width, OUT_OF_RANGE, Networks::bent, x -> x.arc(0, 1, width, 1));
            }
        });
        s.says("or price is out of range", () -> {
            for (int price : Networks.outside(0, 99)) {
                s.refuses("price " + price, OUT_OF_RANGE, Networks::bent, x -> x.arc(0, 1, 1, price));
            }
        });
        s.says("Throws `IllegalStateException` if there are 12 arcs", () -> {
            ConvexConduit x = new ConvexConduit(2);
            for (int arc = 0; arc < 11; arc++) {
                x.arc(0, 1, 1, 1);
            }
            s.due("the 12th", x.arc(0, 1, 1, 1), 11);
            s.refuses("the 13th", FULL, () -> x, y -> y.arc(0, 1, 1, 1));
            s.refuses("once more", FULL, Networks::full, y -> y.arc(1, 0, 5, 99));
        });
    }

    private static void piece(Sentences s) {
        s.section("Promise 3: piece");
        s.says("Tells a further piece of an arc.", () -> {
            ConvexConduit x = Networks.oneArc(1, 7);
            x.arc(1, 0, 2, 3);
            x.piece(0, 2, 8);
            s.due("its units", x.capacity(0), 3);
            s.due("the price of the first", x.price(0, 1), 7);
            s.due("the price of the next", x.price(0, 2), 8);
            s.due("the other arc", x.capacity(1), 2);
            s.due("no further arc", x.arcs(), 2);
            s.due("most", x.most(), 3);
        });
        s.says("- `arc`: its number", () -> {
            for (int arc = 0; arc < 12; arc++) {
                ConvexConduit x = Networks.full();
                s.due("arc " + arc, arc == 0 ? 3 : x.piece(arc, 4, 70), arc == 0 ? 3 : 5);
                s.due("the others", x.capacity((arc + 5) % 12), (arc + 5) % 12 == 0 ? 3 : 1);
            }
        });
        s.says("- `width`: 1 to 5", () -> {
            for (int width = 1; width <= 5; width++) {
                s.due("of " + width, Networks.oneArc(1, 3).piece(0, width, 3), 1 + width);
            }
        });
        s.says("- `price`: that of its last piece", () -> {
            s.due("that of the first", Networks.oneArc(2, 50).piece(0, 1, 50), 3);
            s.due("that of the second", Networks.oneArc(2, 50, 60).piece(0, 1, 60), 5);
            s.due("that of the arc, not of another", lastOfTwo().piece(0, 1, 50), 3);
        });
        s.says("up to 99", () -> {
            s.due("99 after 98", Networks.oneArc(2, 98).piece(0, 1, 99), 3);
            s.due("99 after 99", Networks.oneArc(2, 99).piece(0, 1, 99), 3);
            s.due("99 after 0", Networks.oneArc(2, 0).piece(0, 1, 99), 3);
        });
        s.says("Returns its capacity then.", () -> {
            ConvexConduit x = Networks.oneArc(5, 1);
            s.due("with the second", x.piece(0, 5, 1), 10);
            s.due("with the third", x.piece(0, 5, 1), 15);
        });
    }

    private static ConvexConduit lastOfTwo() {
        ConvexConduit x = Networks.oneArc(2, 50);
        x.arc(0, 1, 1, 90);
        return x;
    }

    private static void pieceRefuses(Sentences s) {
        s.says("Throws `IndexOutOfBoundsException` if there is no such arc", () -> {
            for (int arc : Networks.outside(0, 3)) {
                s.refuses("arc " + arc, NO_SUCH, Networks::bent, x -> x.piece(arc, 1, 99));
            }
            for (int arc : Networks.outside(0, 11)) {
                s.refuses("of 12, arc " + arc, NO_SUCH, Networks::full, x -> x.piece(arc, 1, 99));
            }
            s.refuses("none at all", NO_SUCH, () -> new ConvexConduit(2), x -> x.piece(0, 1, 99));
        });
        s.says("Throws `IllegalArgumentException` if width", () -> {
            for (int width : Networks.outside(1, 5)) {
                s.refuses("width " + width, OUT_OF_RANGE, Networks::bent, x -> x.piece(0, width, 9));
            }
        });
        s.says("or price is out of range", () -> {
            for (int price : Networks.outside(50, 99)) {
                s.refuses("after one, price " + price, OUT_OF_RANGE, () -> Networks.oneArc(2, 50),
                    x -> x.piece(0, 1, price));
                s.refuses("after two, price " + price, OUT_OF_RANGE, () -> Networks.oneArc(2, 9, 50),
                    x -> x.piece(0, 1, price));
            }
        });
        s.says("Throws `IllegalStateException` if it has 3 pieces", () -> {
            s.refuses("a fourth", FULL, () -> Networks.oneArc(5, 1, 2, 3), x -> x.piece(0, 1, 3));
            s.refuses("a fourth of few units", FULL, () -> Networks.oneArc(1, 1, 2, 3), x -> x.piece(0, 5, 99));
            s.due("a third", Networks.oneArc(5, 1, 2).piece(0, 5, 3), 15);
            s.due("of another arc", Networks.full().piece(11, 1, 99), 2);
        });
    }

    private static void demand(Sentences s) {
        s.section("Promise 4: demand");
        s.says("Sets the demand.", () -> {
            ConvexConduit x = Networks.bent();
            x.demand(0, 3, 1);
            s.due("to 3", x.cost(), 2);
            x.demand(2, 1, 2);
            s.due("from 2", x.cost(), 2);
            x.demand(1, 0, 0);
            s.due("back", x.most(), 0);
            x.demand(0, 1, 7);
            s.due("as much as goes", x.cost(), 4 + 100);
        });
        s.says("- `source`: a node", () -> {
            for (int source = 0; source < 8; source++) {
                ConvexConduit x = Networks.demanding(new ConvexConduit(8), source, (source + 1) % 8, 0);
                s.due("more of the source", x.more(source), 0);
                s.due("more of the target", x.more((source + 1) % 8), NONE);
            }
        });
        s.says("- `target`: another node", () -> {
            for (int target = 0; target < 8; target++) {
                ConvexConduit x = new ConvexConduit(8);
                x.arc((target + 1) % 8, target, 4, 1);
                x.demand((target + 1) % 8, target, 4);
                s.due("most", x.most(), 4);
            }
        });
        s.says("- `amount`: 0 to 20", () -> {
            for (int amount = 0; amount <= 20; amount++) {
                ConvexConduit x = Networks.oneArc(5, 1, 1, 1);
                x.arc(0, 1, 5, 1);
                s.due("of " + amount, Networks.demanding(x, 0, 1, amount).cost(), amount);
            }
        });
    }

    private static void demandRefuses(Sentences s) {
        s.says("Throws `IndexOutOfBoundsException` if there is no such node", () -> {
            for (int node : Networks.outside(0, 3)) {
                s.refuses("source", NO_SUCH, Networks::bent, x -> Networks.demand(x, node, 3, 1));
                s.refuses("target", NO_SUCH, Networks::bent, x -> Networks.demand(x, 2, node, 1));
            }
        });
        s.says("Throws `IllegalArgumentException` if both nodes are the same", () -> {
            for (int node = 0; node < 4; node++) {
                int same = node;
                s.refuses("node " + node, OUT_OF_RANGE, Networks::bent, x -> Networks.demand(x, same, same, 0));
            }
        });
        s.says(", or amount is out of range", () -> {
            for (int amount : Networks.outside(0, 20)) {
                s.refuses("amount " + amount, OUT_OF_RANGE, Networks::bent, x -> Networks.demand(x, 2, 1, amount));
            }
        });
    }

    private static void nodes(Sentences s) {
        s.section("Promise 5: nodes");
        s.says("Returns how many nodes there are.", () -> {
            for (int nodes = 2; nodes <= 8; nodes++) {
                ConvexConduit x = new ConvexConduit(nodes);
                s.due("new", x.nodes(), nodes);
                x.arc(0, 1, 1, 1);
                x.demand(1, 0, 20);
                s.due("later", x.nodes(), nodes);
            }
        });
    }

    private static void arcs(Sentences s) {
        s.section("Promise 6: arcs");
        s.says("Returns how many arcs there are.", () -> {
            ConvexConduit x = new ConvexConduit(2);
            for (int arcs = 0; arcs < 12; arcs++) {
                s.due("so far", x.arcs(), arcs);
                x.arc(0, 1, 1, 1);
                x.piece(arcs, 1, 1);
            }
            s.due("all", x.arcs(), 12);
            s.refuses("a 13th does not count", FULL, Networks::full, y -> y.arc(0, 1, 1, 1));
            s.refuses("a wrong one does not count", NO_SUCH, () -> new ConvexConduit(2), y -> y.arc(0, 2, 1, 1));
        });
    }

    private static void capacity(Sentences s) {
        s.section("Promise 7: capacity");
        s.says("Returns the capacity of an arc.", () -> {
            ConvexConduit x = Networks.bent();
            s.due("of two pieces", x.capacity(0), 3);
            s.due("of one", x.capacity(3), 1);
            x.demand(0, 1, 7);
            s.due("when taken", x.flow(0) + x.drivenOn(0), 4);
            s.due("the same when taken", x.capacity(0), 3);
        });
        s.says("- `arc`: its number", () -> {
            s.due("the first of 12", Networks.full().capacity(0), 3);
            s.due("the last of 12", Networks.full().capacity(11), 1);
        });
        s.says("Returns the capacity.", () -> {
            s.due("the least", Networks.oneArc(1, 1).capacity(0), 1);
            s.due("the greatest", Networks.oneArc(5, 1, 1, 1).capacity(0), 15);
        });
        s.says("Throws `IndexOutOfBoundsException` if there is no such arc", () -> {
            for (int arc : Networks.outside(0, 3)) {
                s.refuses("arc " + arc, NO_SUCH, Networks::bent, x -> x.capacity(arc));
            }
            for (int arc : Networks.outside(0, 11)) {
                s.refuses("of 12, arc " + arc, NO_SUCH, Networks::full, x -> x.capacity(arc));
            }
            s.refuses("none at all", NO_SUCH, () -> new ConvexConduit(2), x -> x.capacity(0));
        });
    }

    private static void price(Sentences s) {
        s.section("Promise 8: price");
        s.says("Returns the price of a unit of an arc.", () -> {
            int[] due = {20, 20, 20, 20, 20, 40, 40, 40, 40, 40, 99, 99, 99, 99, 99};
            for (int unit = 1; unit <= 15; unit++) {
                s.due("unit " + unit, Networks.oneArc(5, 20, 40, 99).price(0, unit), due[unit - 1]);
            }
        });
        s.says("- `arc`: its number", () -> {
            for (int arc = 0; arc < 12; arc++) {
                s.due("arc " + arc, Networks.full().price(arc, 1), arc);
            }
        });
        s.says("- `unit`: 1 to its capacity", () -> {
            s.due("the only one", Networks.oneArc(1, 0).price(0, 1), 0);
            s.due("the first", Networks.oneArc(5, 1, 2, 3).price(0, 1), 1);
            s.due("the last", Networks.oneArc(5, 1, 2, 3).price(0, 15), 3);
        });
        s.says("Returns the price.", () -> {
            s.due("the least", Networks.oneArc(1, 0).price(0, 1), 0);
            s.due("the greatest", Networks.oneArc(1, 99).price(0, 1), 99);
            ConvexConduit x = Networks.demanding(Networks.oneArc(1, 8, 9), 0, 1, 1);
            s.due("when taken", x.flow(0) + x.drivenOn(0), 2);
            s.due("the same when taken", x.price(0, 1), 8);
        });
        s.says("Throws `IndexOutOfBoundsException` if there is no such arc", () -> {
            for (int arc : Networks.outside(0, 3)) {
                s.refuses("arc " + arc, NO_SUCH, Networks::bent, x -> x.price(arc, 1));
            }
            for (int arc : Networks.outside(0, 11)) {
                s.refuses("of 12, arc " + arc, NO_SUCH, Networks::full, x -> x.price(arc, 1));
            }
            s.refuses("none at all", NO_SUCH, () -> new ConvexConduit(2), x -> x.price(0, 1));
        });
        s.says("or unit", () -> {
            for (int unit : Networks.outside(1, 3)) {
                s.refuses("unit " + unit, NO_SUCH, Networks::bent, x -> x.price(0, unit));
            }
            for (int unit : Networks.outside(1, 15)) {
                s.refuses("of 15, unit " + unit, NO_SUCH, () -> Networks.oneArc(5, 1, 2, 3), x -> x.price(0, unit));
            }
            // Unit 16 of the first arc would be where unit 1 of the next one is kept, if units are in one row.
            s.refuses("the next arc's unit", NO_SUCH, Networks::bent, x -> x.price(0, 16));
            s.refuses("the earlier arc's unit", NO_SUCH, Networks::bent, x -> x.price(1, -13));
        });
    }
}
