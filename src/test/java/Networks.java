import java.util.ArrayList;
import java.util.List;

/** Networks for the tests, all that an object can be asked, and arguments that are out of range. */
final class Networks {
    /** Such as wrap round: as a byte, as a short, or times 15, the most units of an arc, as an int. */
    private static final int[] FAR_OFF = {Integer.MIN_VALUE, Integer.MIN_VALUE + 1, -286331154, -256, -1, 0, 255, 256,
        257, 65535, 65536, 65537, 286331153, 286331154, Integer.MAX_VALUE - 1, Integer.MAX_VALUE};

    private Networks() {
    }

    /** Numbers that are none of first to last: those beside them, far ones, and ones that wrap round into them. */
    static int[] outside(int first, int last) {
        List<Integer> all = new ArrayList<>(List.of(first - 1, last + 1));
        for (int number : FAR_OFF) {
            if (number < first - 1 || number > last + 1) {
                all.add(number);
            }
        }
        return all.stream().mapToInt(Integer::intValue).toArray();
    }

    static ConvexConduit ofNodes(int nodes) {
        return new ConvexConduit(nodes);
    }

    /** Four nodes, four arcs, two of which are a way from 0 over 2 to 1; the demand is met for 4. */
    static ConvexConduit bent() {
        ConvexConduit x = new ConvexConduit(4);
        x.arc(0, 2, 2, 1);
        x.piece(0, 1, 9);
        x.arc(2, 1, 2, 1);
        x.arc(0, 1, 5, 20);
        x.arc(1, 3, 1, 0);
        x.demand(0, 1, 2);
        return x;
    }

    /** As many arcs as there may be, the first of them with as many pieces. */
    static ConvexConduit full() {
        ConvexConduit x = new ConvexConduit(3);
        for (int arc = 0; arc < 12; arc++) {
            x.arc(arc % 2, arc % 2 + 1, 1, arc);
        }
        x.piece(0, 1, 50);
        x.piece(0, 1, 60);
        x.demand(0, 2, 2);
        return x;
    }

    /** One arc from 0 to 1 with some units at each of these prices, at most three. */
    static ConvexConduit oneArc(int width, int... prices) {
        ConvexConduit x = new ConvexConduit(2);
        for (int i = 0; i < prices.length; i++) {
            if (i == 0) {
                x.arc(0, 1, width, prices[i]);
            } else {
                x.piece(0, width, prices[i]);
            }
        }
        return x;
    }

    /** One way over this many arcs, each with 15 units at 99, from node 0 to the last one. */
    static ConvexConduit chain(int arcs) {
        ConvexConduit x = new ConvexConduit(arcs + 1);
        for (int arc = 0; arc < arcs; arc++) {
            x.arc(arc, arc + 1, 5, 99);
            x.piece(arc, 5, 99);
            x.piece(arc, 5, 99);
        }
        return x;
    }

    static ConvexConduit demanding(ConvexConduit x, int source, int target, int amount) {
        x.demand(source, target, amount);
        return x;
    }

    /** For where a call has to answer something. */
    static int demand(ConvexConduit x, int source, int target, int amount) {
        x.demand(source, target, amount);
        return 0;
    }

    /** All answers that there are, but for the refusals. */
    static int[] answers(ConvexConduit x) {
        List<Integer> all = new ArrayList<>(List.of(x.nodes(), x.arcs(), x.most(), x.cost(), x.costByCircles(),
            x.driven(), x.lastPaid()));
        for (int node = 0; node < x.nodes(); node++) {
            all.add(x.more(node));
        }
        for (int arc = 0; arc < x.arcs(); arc++) {
            all.addAll(List.of(x.capacity(arc), x.flow(arc), x.leastOn(arc), x.mostOn(arc), x.drivenOn(arc)));
            for (int unit = 1; unit <= x.capacity(arc); unit++) {
                all.add(x.price(arc, unit));
            }
        }
        return all.stream().mapToInt(Integer::intValue).toArray();
    }

    static int[] flows(ConvexConduit x) {
        int[] flows = new int[x.arcs()];
        for (int arc = 0; arc < flows.length; arc++) {
            flows[arc] = x.flow(arc);
        }
        return flows;
    }

    static int[] driven(ConvexConduit x) {
        int[] driven = new int[x.arcs()];
        for (int arc = 0; arc < driven.length; arc++) {
            driven[arc] = x.drivenOn(arc);
        }
        return driven;
    }

    static int[] row(int... numbers) {
        return numbers;
    }
}
