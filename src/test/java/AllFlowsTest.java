/** Small networks, of which all flows there are can be looked at one by one. */
public final class AllFlowsTest {
    private static final Checks CHECKS = new Checks();

    public static void main(String[] args) {
        Numbers numbers = new Numbers(20261119);
        for (int run = 0; run < 1500; run++) {
            look(run, numbers);
        }
        CHECKS.end("AllFlowsTest");
    }

    private static void look(int run, Numbers numbers) {
        int nodes = 2 + numbers.below(4);
        Model m = new Model(nodes);
        ConvexConduit x = new ConvexConduit(nodes);
        int dearest = numbers.below(3) == 0 ? 100 : 1 + numbers.below(4);
        long flows = 1;
        for (int i = 0; i < 7; i++) {
            int from = numbers.below(nodes);
            int to = (from + 1 + numbers.below(nodes - 1)) % nodes;
            int width = 1 + numbers.below(3);
            if (flows * (width + 3) > 4000) {
                break;
            }
            int price = numbers.below(dearest);
            x.arc(from, to, width, price);
            m.arc(from, to, width, price);
            for (int more = numbers.below(3); more > 0; more--) {
                price += numbers.below(100 - price < dearest ? 100 - price : dearest);
                x.piece(i, 1, price);
                m.piece(i, 1, price);
            }
            flows *= m.capacity(i) + 1;
        }
        int source = numbers.below(nodes);
        int target = (source + 1 + numbers.below(nodes - 1)) % nodes;
        for (int amount = 0; amount <= 4; amount++) {
            x.demand(source, target, amount);
            m.demand(source, target, amount);
            compare("run " + run + " amount " + amount, x, m);
        }
    }

    private static void compare(String run, ConvexConduit x, Model m) {
        int[] least = new int[m.arcs()];
        int[] most = new int[m.arcs()];
        int[] chosen = new int[m.arcs()];
        int cost = cheapest(m, least, most, chosen);
        CHECKS.due(run + " cost", x.cost(), cost);
        CHECKS.due(run + " costByCircles", x.costByCircles(), cost);
        for (int arc = 0; arc < m.arcs(); arc++) {
            CHECKS.due(run + " leastOn " + arc, x.leastOn(arc), cost < 0 ? -1 : least[arc]);
            CHECKS.due(run + " mostOn " + arc, x.mostOn(arc), cost < 0 ? -1 : most[arc]);
            CHECKS.due(run + " flow " + arc, x.flow(arc), cost < 0 ? -1 : chosen[arc]);
        }
        for (int node = 0; node < m.nodes; node++) {
            CHECKS.due(run + " more " + node, x.more(node), more(m, node, cost));
        }
        CHECKS.due(run + " most", x.most(), greatest(m));
    }

    private static int more(Model m, int node, int cost) {
        if (cost < 0) {
            return -1;
        }
        int with = costWith(m, m.amount, node, 1);
        return with < 0 ? -1 : with - cost;
    }

    private static int greatest(Model m) {
        int amount = 0;
        while (costWith(m, amount + 1, m.source, 0) >= 0) {
            amount++;
        }
        return amount;
    }

    private static int costWith(Model m, int units, int node, int extra) {
        int best = -1;
        int[] flow = new int[m.arcs()];
        do {
            if (m.isFlow(flow, units, node, extra) && (best < 0 || m.priceOf(flow) < best)) {
                best = m.priceOf(flow);
            }
        } while (next(m, flow));
        return best;
    }

    private static int cheapest(Model m, int[] least, int[] most, int[] chosen) {
        int best = costWith(m, m.amount, m.source, 0);
        java.util.Arrays.fill(least, 99);
        java.util.Arrays.fill(most, -1);
        boolean first = true;
        int[] flow = new int[m.arcs()];
        do {
            if (best >= 0 && m.isFlow(flow, m.amount, m.source, 0) && m.priceOf(flow) == best) {
                for (int arc = 0; arc < flow.length; arc++) {
                    least[arc] = Math.min(least[arc], flow[arc]);
                    most[arc] = Math.max(most[arc], flow[arc]);
                    chosen[arc] = first ? flow[arc] : chosen[arc];
                }
                first = false;
            }
        } while (next(m, flow));
        return best;
    }

    /** The next amounts in the order in which the arc with the lowest number counts most. */
    private static boolean next(Model m, int[] flow) {
        for (int arc = flow.length - 1; arc >= 0; arc--) {
            if (flow[arc] < m.capacity(arc)) {
                flow[arc]++;
                return true;
            }
            flow[arc] = 0;
        }
        return false;
    }
}
