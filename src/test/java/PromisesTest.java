/** Each promise of the document: ordinary inputs, the edges that it names, and wrong inputs. */
public final class PromisesTest {
    private static final Class<IndexOutOfBoundsException> NO_SUCH = IndexOutOfBoundsException.class;
    private static final Class<IllegalArgumentException> OUT_OF_RANGE = IllegalArgumentException.class;
    private static final Class<IllegalStateException> FULL = IllegalStateException.class;
    private static final int NONE = ConvexConduit.NONE;
    private static final Checks CHECKS = new Checks();

    public static void main(String[] args) {
        promise1NewObject();
        promise2Arc();
        promise2ArcRefuses();
        promise3Piece();
        promise3PieceRefuses();
        promise4Demand();
        promise4DemandRefuses();
        promises5And6Nodes();
        promise7Capacity();
        promise8Price();
        promise9Most();
        promises10And11Cost();
        promise12More();
        promise12MoreEdges();
        promise13Flow();
        promises14And15Range();
        promises14And15Circle();
        promise16To18Drivers();
        promise16To18DriversTies();
        promise16To18NoWay();
        asksChangeNothing();
        CHECKS.end("PromisesTest");
    }

    private static void due(String what, long got, long want) {
        CHECKS.due(what, got, want);
    }

    private static void refused(String what, Class<? extends RuntimeException> want, Checks.Call call) {
        CHECKS.refused(what, want, call);
    }

    private static int demand(ConvexConduit x, int source, int target, int amount) {
        x.demand(source, target, amount);
        return 0;
    }

    private static void promise1NewObject() {
        int[][] toldAndDue = {{Integer.MIN_VALUE, 2}, {-1, 2}, {0, 2}, {1, 2}, {2, 2}, {3, 3}, {7, 7}, {8, 8}, {9, 8},
            {Integer.MAX_VALUE, 8}};
        for (int[] pair : toldAndDue) {
            ConvexConduit x = new ConvexConduit(pair[0]);
            due("1: nodes of " + pair[0], x.nodes(), pair[1]);
            due("1: arcs of " + pair[0], x.arcs(), 0);
            due("1: cost of " + pair[0], x.cost(), 0);
        }
        due("1: NONE", NONE, -1);
    }

    private static void promise2Arc() {
        ConvexConduit x = new ConvexConduit(3);
        due("2: first", x.arc(0, 1, 1, 0), 0);
        due("2: beside it", x.arc(0, 1, 5, 99), 1);
        due("2: back", x.arc(1, 0, 2, 7), 2);
        due("2: capacity of first", x.capacity(0), 1);
        due("2: capacity of second", x.capacity(1), 5);
        due("2: price of second", x.price(1, 5), 99);
        for (int i = 3; i < 12; i++) {
            due("2: number", x.arc(2, 0, 1, 1), i);
        }
        refused("2: a 13th", FULL, () -> x.arc(0, 1, 1, 1));
        due("2: still 12", x.arcs(), 12);
        refused("2: full, no node", NO_SUCH, () -> x.arc(0, 3, 1, 1));
        refused("2: full, same nodes", OUT_OF_RANGE, () -> x.arc(1, 1, 1, 1));
        refused("2: full, width", OUT_OF_RANGE, () -> x.arc(0, 1, 0, 1));
        refused("2: full, price", OUT_OF_RANGE, () -> x.arc(0, 1, 1, 100));
    }

    private static void promise2ArcRefuses() {
        ConvexConduit x = new ConvexConduit(3);
        int[] noNodes = {-1, 3, 8, Integer.MIN_VALUE, Integer.MAX_VALUE};
        for (int node : noNodes) {
            refused("2: from", NO_SUCH, () -> x.arc(node, 1, 1, 1));
            refused("2: to", NO_SUCH, () -> x.arc(1, node, 1, 1));
            refused("2: both the same and none", NO_SUCH, () -> x.arc(node, node, 1, 1));
            refused("2: to ahead of width", NO_SUCH, () -> x.arc(0, node, 9, 100));
        }
        refused("2: same", OUT_OF_RANGE, () -> x.arc(2, 2, 1, 1));
        int[] noWidths = {0, 6, -1, Integer.MIN_VALUE, Integer.MAX_VALUE};
        for (int width : noWidths) {
            refused("2: width", OUT_OF_RANGE, () -> x.arc(0, 1, width, 1));
        }
        int[] noPrices = {-1, 100, Integer.MIN_VALUE, Integer.MAX_VALUE};
        for (int price : noPrices) {
            refused("2: price", OUT_OF_RANGE, () -> x.arc(0, 1, 1, price));
        }
        due("2: nothing told", x.arcs(), 0);
    }

    private static void promise3Piece() {
        ConvexConduit x = new ConvexConduit(2);
        x.arc(0, 1, 5, 3);
        x.arc(0, 1, 1, 99);
        due("3: same price", x.piece(0, 5, 3), 10);
        due("3: third", x.piece(0, 5, 99), 15);
        due("3: at 99", x.piece(1, 1, 99), 2);
        due("3: capacity", x.capacity(0), 15);
        due("3: price of unit 10", x.price(0, 10), 3);
        due("3: price of unit 11", x.price(0, 11), 99);
        due("3: other arc", x.capacity(1), 2);
        refused("3: a fourth", FULL, () -> x.piece(0, 1, 99));
        refused("3: full, width", OUT_OF_RANGE, () -> x.piece(0, 6, 99));
        refused("3: full, price below the last", OUT_OF_RANGE, () -> x.piece(0, 1, 98));
        refused("3: full, price above", OUT_OF_RANGE, () -> x.piece(0, 1, 100));
        due("3: unchanged", x.capacity(0), 15);
    }

    private static void promise3PieceRefuses() {
        ConvexConduit x = new ConvexConduit(2);
        refused("3: no arc at all", NO_SUCH, () -> x.piece(0, 1, 1));
        x.arc(0, 1, 2, 50);
        int[] noArcs = {-1, 1, 12, Integer.MIN_VALUE, Integer.MAX_VALUE};
        for (int arc : noArcs) {
            refused("3: arc", NO_SUCH, () -> x.piece(arc, 1, 50));
            refused("3: arc ahead of width", NO_SUCH, () -> x.piece(arc, 0, -1));
        }
        int[] noWidths = {0, 6, -1, Integer.MIN_VALUE, Integer.MAX_VALUE};
        for (int width : noWidths) {
            refused("3: width", OUT_OF_RANGE, () -> x.piece(0, width, 50));
        }
        int[] noPrices = {49, 0, -1, 100, Integer.MIN_VALUE, Integer.MAX_VALUE};
        for (int price : noPrices) {
            refused("3: price", OUT_OF_RANGE, () -> x.piece(0, 1, price));
        }
        due("3: unchanged", x.capacity(0), 2);
        due("3: price of the last, not the first", x.piece(0, 1, 60), 3);
        refused("3: below the second", OUT_OF_RANGE, () -> x.piece(0, 1, 59));
        due("3: three pieces", x.piece(0, 1, 60), 4);
    }

    private static void promise4Demand() {
        ConvexConduit x = new ConvexConduit(3);
        x.arc(0, 1, 5, 2);
        x.arc(1, 2, 5, 3);
        due("4: at first no amount", x.cost(), 0);
        due("4: at first from 0 to 1", x.most(), 5);
        due("4: at first from 0", x.more(1), 2);
        x.demand(1, 2, 2);
        due("4: other demand", x.cost(), 6);
        x.demand(0, 2, 5);
        due("4: other source", x.cost(), 25);
        x.demand(2, 0, 0);
        due("4: amount 0", x.cost(), 0);
        due("4: against the arcs", x.most(), 0);
        x.piece(0, 5, 2);
        x.piece(0, 5, 2);
        x.piece(1, 5, 3);
        x.piece(1, 5, 3);
        x.arc(0, 2, 5, 9);
        x.demand(0, 2, 20);
        due("4: amount 20", x.cost(), 15 * 5 + 5 * 9);
    }

    private static void promise4DemandRefuses() {
        ConvexConduit x = new ConvexConduit(3);
        x.arc(1, 2, 5, 4);
        x.demand(1, 2, 3);
        int[] noNodes = {-1, 3, 8, Integer.MIN_VALUE, Integer.MAX_VALUE};
        for (int node : noNodes) {
            refused("4: source", NO_SUCH, () -> demand(x, node, 1, 1));
            refused("4: target", NO_SUCH, () -> demand(x, 1, node, 1));
            refused("4: both the same and none", NO_SUCH, () -> demand(x, node, node, 1));
            refused("4: node ahead of amount", NO_SUCH, () -> demand(x, 0, node, 21));
        }
        refused("4: same", OUT_OF_RANGE, () -> demand(x, 0, 0, 1));
        int[] noAmounts = {-1, 21, Integer.MIN_VALUE, Integer.MAX_VALUE};
        for (int amount : noAmounts) {
            refused("4: amount", OUT_OF_RANGE, () -> demand(x, 2, 0, amount));
        }
        due("4: unchanged", x.cost(), 12);
        due("4: unchanged source", x.more(1), 0);
    }

    private static void promises5And6Nodes() {
        ConvexConduit x = new ConvexConduit(5);
        x.arc(0, 4, 1, 1);
        x.arc(4, 0, 1, 1);
        x.piece(0, 1, 1);
        due("5: nodes", x.nodes(), 5);
        due("6: arcs", x.arcs(), 2);
        refused("6: a wrong arc", NO_SUCH, () -> x.arc(0, 5, 1, 1));
        due("5: nodes as before", x.nodes(), 5);
        due("6: arcs as before", x.arcs(), 2);
    }

    private static void promise7Capacity() {
        ConvexConduit x = new ConvexConduit(2);
        refused("7: no arc", NO_SUCH, () -> x.capacity(0));
        x.arc(0, 1, 3, 1);
        x.piece(0, 4, 1);
        x.demand(0, 1, 7);
        due("7: sum of widths", x.capacity(0), 7);
        int[] noArcs = {-1, 1, 12, Integer.MIN_VALUE, Integer.MAX_VALUE};
        for (int arc : noArcs) {
            refused("7: arc", NO_SUCH, () -> x.capacity(arc));
        }
    }

    private static void promise8Price() {
        ConvexConduit x = new ConvexConduit(2);
        refused("8: no arc", NO_SUCH, () -> x.price(0, 1));
        x.arc(0, 1, 2, 0);
        x.piece(0, 1, 7);
        x.piece(0, 3, 8);
        x.arc(1, 0, 5, 42);
        int[] prices = {0, 0, 7, 8, 8, 8};
        for (int unit = 1; unit <= 6; unit++) {
            due("8: unit " + unit, x.price(0, unit), prices[unit - 1]);
        }
        due("8: other arc", x.price(1, 5), 42);
        int[] noUnits = {0, 7, -1, 15, Integer.MIN_VALUE, Integer.MAX_VALUE};
        for (int unit : noUnits) {
            refused("8: unit", NO_SUCH, () -> x.price(0, unit));
        }
        int[] noArcs = {-1, 2, Integer.MIN_VALUE, Integer.MAX_VALUE};
        for (int arc : noArcs) {
            refused("8: arc", NO_SUCH, () -> x.price(arc, 1));
        }
    }

    private static void promise9Most() {
        ConvexConduit x = new ConvexConduit(8);
        due("9: without arcs", x.most(), 0);
        for (int i = 0; i < 12; i++) {
            x.arc(0, 1, 5, 1);
            x.piece(i, 5, 2);
            x.piece(i, 5, 3);
        }
        due("9: above 20", x.most(), 180);
        x.demand(0, 1, 20);
        due("9: not the amount", x.most(), 180);
        x.demand(1, 0, 20);
        due("9: the other way", x.most(), 0);

        ConvexConduit y = new ConvexConduit(4);
        y.arc(0, 1, 1, 1);
        y.arc(0, 2, 1, 1);
        y.arc(1, 2, 1, 0);
        y.arc(1, 3, 1, 1);
        y.arc(2, 3, 1, 1);
        y.arc(3, 0, 5, 0);
        y.demand(0, 3, 0);
        due("9: over a way that must be left again", y.most(), 2);
    }

    private static void promises10And11Cost() {
        ConvexConduit x = new ConvexConduit(4);
        due("10: amount 0", x.cost(), 0);
        due("11: amount 0", x.costByCircles(), 0);
        x.demand(0, 1, 1);
        due("10: no arcs", x.cost(), NONE);
        due("11: no arcs", x.costByCircles(), NONE);
        x.arc(0, 2, 5, 99);
        x.piece(0, 5, 99);
        x.arc(2, 3, 5, 99);
        x.piece(1, 5, 99);
        x.arc(3, 1, 5, 99);
        x.piece(2, 5, 99);
        x.demand(0, 1, 10);
        due("10: just met", x.cost(), 2970);
        due("11: just met", x.costByCircles(), 2970);
        x.demand(0, 1, 11);
        due("10: one too many", x.cost(), NONE);
        due("11: one too many", x.costByCircles(), NONE);
        x.arc(0, 3, 3, 1);
        x.arc(2, 1, 2, 1);
        x.demand(0, 1, 3);
        due("10: the cheapest way", x.cost(), 300);
        due("11: the cheapest way", x.costByCircles(), 300);
        x.demand(0, 1, 12);
        due("10: all", x.cost(), 99 * 9 + 99 * 7 + 99 * 10 + 3 + 2);
        due("11: all", x.costByCircles(), 99 * 9 + 99 * 7 + 99 * 10 + 3 + 2);
    }

    private static void promise12More() {
        ConvexConduit x = new ConvexConduit(4);
        x.arc(0, 2, 2, 1);
        x.piece(0, 1, 9);
        x.arc(2, 1, 2, 1);
        x.arc(0, 1, 5, 20);
        x.demand(0, 1, 2);
        due("12: source", x.more(0), 0);
        due("12: target", x.more(1), 20);
        due("12: between", x.more(2), 9);
        due("12: cut off", x.more(3), NONE);
        x.demand(0, 1, 7);
        due("12: target when full", x.more(1), NONE);
        due("12: source when full", x.more(0), 0);
        due("12: between when full", x.more(2), 9);
        x.demand(0, 1, 8);
        for (int node = 0; node < 4; node++) {
            due("12: not met", x.more(node), NONE);
        }
        int[] noNodes = {-1, 4, 8, Integer.MIN_VALUE, Integer.MAX_VALUE};
        for (int node : noNodes) {
            refused("12: node", NO_SUCH, () -> x.more(node));
        }
    }

    private static void promise12MoreEdges() {
        ConvexConduit x = new ConvexConduit(3);
        for (int i = 0; i < 2; i++) {
            x.arc(0, 1, 5, 1);
            x.piece(i, 5, 1);
        }
        x.arc(0, 1, 1, 7);
        x.arc(1, 2, 5, 3);
        x.demand(0, 1, 20);
        due("12: above 20", x.more(1), 7);
        due("12: beyond the target", x.more(2), 10);

        // One unit more to 2 makes the demand go another way: only both together tell the price.
        ConvexConduit y = new ConvexConduit(4);
        y.arc(0, 2, 1, 1);
        y.arc(2, 1, 1, 1);
        y.arc(0, 3, 1, 4);
        y.arc(3, 1, 1, 5);
        y.demand(0, 1, 1);
        due("12: the demand goes round", y.more(2), 8);
        due("12: beside it", y.more(3), 4);
    }

    private static void promise13Flow() {
        ConvexConduit x = new ConvexConduit(4);
        refused("13: no arc", NO_SUCH, () -> x.flow(0));
        x.arc(0, 1, 2, 5);
        x.arc(0, 2, 3, 2);
        x.arc(2, 1, 3, 3);
        x.arc(0, 1, 2, 5);
        x.demand(0, 1, 4);
        dueFlow("13: the least first", x, 0, 2, 2, 2);
        x.demand(0, 1, 3);
        dueFlow("13: as few on 1 as can be", x, 0, 1, 1, 2);
        x.demand(0, 1, 6);
        dueFlow("13: pressed back", x, 1, 3, 3, 2);
        x.demand(0, 1, 7);
        dueFlow("13: all full", x, 2, 3, 3, 2);
        x.demand(0, 1, 8);
        dueFlow("13: not met", x, NONE, NONE, NONE, NONE);
        x.demand(0, 1, 0);
        dueFlow("13: nothing", x, 0, 0, 0, 0);
        int[] noArcs = {-1, 4, 12, Integer.MIN_VALUE, Integer.MAX_VALUE};
        for (int arc : noArcs) {
            refused("13: arc", NO_SUCH, () -> x.flow(arc));
        }
    }

    private static void dueFlow(String what, ConvexConduit x, int... want) {
        for (int arc = 0; arc < want.length; arc++) {
            due(what + ", arc " + arc, x.flow(arc), want[arc]);
        }
    }

    private static void promises14And15Range() {
        ConvexConduit x = new ConvexConduit(3);
        refused("14: no arc", NO_SUCH, () -> x.leastOn(0));
        refused("15: no arc", NO_SUCH, () -> x.mostOn(0));
        x.arc(0, 1, 2, 4);
        x.piece(0, 2, 6);
        x.arc(0, 1, 1, 5);
        x.piece(1, 3, 6);
        x.arc(0, 2, 5, 3);
        x.arc(2, 1, 3, 3);
        x.demand(0, 1, 6);
        due("14: arc 0", x.leastOn(0), 2);
        due("15: arc 0", x.mostOn(0), 4);
        due("14: arc 1", x.leastOn(1), 1);
        due("15: arc 1", x.mostOn(1), 4);
        due("14: arc 2", x.leastOn(2), 0);
        due("15: arc 2", x.mostOn(2), 3);
        due("14: arc 3", x.leastOn(3), 0);
        due("15: arc 3", x.mostOn(3), 3);
        x.demand(0, 1, 9);
        due("14: with more", x.leastOn(0), 2);
        due("15: with more", x.mostOn(0), 4);
        due("14: with more, arc 1", x.leastOn(1), 2);
        due("14: with more, arc 2", x.leastOn(2), 1);
        x.demand(0, 1, 12);
        due("14: not met", x.leastOn(0), NONE);
        due("15: not met", x.mostOn(0), NONE);
        int[] noArcs = {-1, 4, 12, Integer.MIN_VALUE, Integer.MAX_VALUE};
        for (int arc : noArcs) {
            refused("14: arc", NO_SUCH, () -> x.leastOn(arc));
            refused("15: arc", NO_SUCH, () -> x.mostOn(arc));
        }
    }

    /** A circle for nothing may go round in a cheapest flow; one that has a price may not. */
    private static void promises14And15Circle() {
        ConvexConduit x = new ConvexConduit(5);
        x.arc(2, 3, 4, 0);
        x.piece(0, 3, 1);
        x.arc(3, 4, 5, 0);
        x.arc(4, 2, 3, 0);
        x.piece(2, 3, 0);
        due("14: circle", x.leastOn(0), 0);
        due("15: circle", x.mostOn(0), 4);
        due("15: circle, arc 1", x.mostOn(1), 4);
        due("15: circle, arc 2", x.mostOn(2), 4);
        due("13: circle", x.flow(1), 0);
        due("10: circle", x.cost(), 0);
    }

    private static void promise16To18Drivers() {
        ConvexConduit x = new ConvexConduit(4);
        refused("17: no arc", NO_SUCH, () -> x.drivenOn(0));
        due("16: no driver", x.driven(), 0);
        due("18: no driver", x.lastPaid(), NONE);
        x.arc(0, 2, 1, 1);
        x.piece(0, 1, 4);
        x.arc(2, 1, 2, 1);
        x.piece(1, 1, 6);
        x.arc(0, 1, 2, 5);
        int[] paid = {2, 5, 5, 5};
        int[][] on = {{1, 1, 0}, {1, 1, 1}, {1, 1, 2}, {2, 2, 2}};
        int sum = 0;
        for (int amount = 1; amount <= 4; amount++) {
            x.demand(0, 1, amount);
            sum += paid[amount - 1];
            due("16: of " + amount, x.driven(), sum);
            due("18: of " + amount, x.lastPaid(), paid[amount - 1]);
            for (int arc = 0; arc < 3; arc++) {
                due("17: of " + amount + " on " + arc, x.drivenOn(arc), on[amount - 1][arc]);
            }
        }
        x.demand(0, 1, 5);
        due("16: one finds no way", x.driven(), NONE);
        due("18: one finds no way", x.lastPaid(), 5);
        due("17: one finds no way", x.drivenOn(0), 2);
        int[] noArcs = {-1, 3, 12, Integer.MIN_VALUE, Integer.MAX_VALUE};
        for (int arc : noArcs) {
            refused("17: arc", NO_SUCH, () -> x.drivenOn(arc));
        }
    }

    private static void promise16To18DriversTies() {
        // The fewest arcs go ahead of the lower number, also over arcs for nothing.
        ConvexConduit x = new ConvexConduit(4);
        x.arc(0, 2, 1, 0);
        x.arc(2, 1, 1, 3);
        x.arc(0, 1, 1, 3);
        x.demand(0, 1, 1);
        due("17: fewest arcs", x.drivenOn(2), 1);
        due("17: not the longer way", x.drivenOn(0), 0);

        // The lower number where they first differ, not the lowest number on the whole way.
        ConvexConduit y = new ConvexConduit(4);
        y.arc(3, 1, 1, 2);
        y.arc(0, 2, 1, 2);
        y.arc(0, 3, 1, 2);
        y.arc(2, 1, 1, 2);
        y.demand(0, 1, 1);
        due("17: lower at first, arc 0", y.drivenOn(0), 0);
        due("17: lower at first, arc 1", y.drivenOn(1), 1);
        due("17: lower at first, arc 2", y.drivenOn(2), 0);
        due("17: lower at first, arc 3", y.drivenOn(3), 1);
        y.arc(2, 1, 1, 2);
        y.demand(0, 1, 2);
        due("17: two, arc 0", y.drivenOn(0), 1);
        due("17: two, arc 4", y.drivenOn(4), 0);
    }

    /** Drivers leave taken what they took, so that they may find no way where a flow is. */
    private static void promise16To18NoWay() {
        ConvexConduit x = new ConvexConduit(4);
        x.demand(0, 1, 2);
        due("16: no way", x.driven(), NONE);
        due("18: no way", x.lastPaid(), NONE);
        x.arc(0, 2, 1, 1);
        x.arc(2, 3, 1, 0);
        x.arc(3, 1, 1, 1);
        x.arc(0, 3, 1, 9);
        x.arc(2, 1, 1, 9);
        due("10: a flow", x.cost(), 20);
        due("16: no second way", x.driven(), NONE);
        due("18: the first one", x.lastPaid(), 2);
        int[] on = {1, 1, 1, 0, 0};
        for (int arc = 0; arc < 5; arc++) {
            due("17: the first one on " + arc, x.drivenOn(arc), on[arc]);
        }
    }

    private static void asksChangeNothing() {
        ConvexConduit x = new ConvexConduit(3);
        x.arc(0, 2, 3, 1);
        x.arc(2, 1, 3, 1);
        x.arc(0, 1, 4, 2);
        x.demand(0, 1, 5);
        int[] first = askAll(x);
        for (int i = 0; i < 3; i++) {
            int[] again = askAll(x);
            for (int k = 0; k < first.length; k++) {
                due("the same again, " + k, again[k], first[k]);
            }
        }
    }

    private static int[] askAll(ConvexConduit x) {
        return new int[] {x.most(), x.cost(), x.costByCircles(), x.more(0), x.more(1), x.more(2), x.flow(0), x.flow(1),
            x.flow(2), x.leastOn(0), x.mostOn(0), x.leastOn(2), x.mostOn(2), x.driven(), x.drivenOn(0), x.drivenOn(2),
            x.lastPaid(), x.nodes(), x.arcs(), x.capacity(2), x.price(2, 4)};
    }
}
