import java.util.ArrayList;
import java.util.List;

/**
 * Networks of every size that the document lets, built by calls right and wrong: the exceptions after the
 * model, the flows after circles taken out at prices that also weigh the amounts on the arcs.
 */
public final class WholeRangeTest {
    private static final long PRICE_WEIGHT = 1L << 48;
    private static final Checks CHECKS = new Checks();

    public static void main(String[] args) {
        Numbers numbers = new Numbers(77);
        for (int run = 0; run < 500; run++) {
            runOf(run, numbers, run % 4 == 3);
        }
        CHECKS.end("WholeRangeTest");
    }

    private static void runOf(int run, Numbers numbers, boolean full) {
        int told = full ? 6 + numbers.below(4) : numbers.below(12) - 1;
        Model m = new Model(told);
        ConvexConduit x = new ConvexConduit(told);
        int dearest = 1 + numbers.below(numbers.below(2) == 0 ? 4 : 100);
        for (int call = 0; call < 120; call++) {
            String name = "run " + run + " call " + call;
            tell(name, x, m, numbers, full, dearest);
            if (call % 15 == 14) {
                compare(name, x, m);
            }
        }
    }

    private static int argument(Numbers numbers, int bound, boolean good) {
        int kind = good ? 100 : numbers.below(200);
        if (kind < 6) {
            return kind == 0 ? Integer.MIN_VALUE : kind == 1 ? Integer.MAX_VALUE : numbers.below(400) - 200;
        }
        return good ? numbers.below(bound) : numbers.below(bound + 2) - 1;
    }

    private static void tell(String name, ConvexConduit x, Model m, Numbers numbers, boolean full, int dearest) {
        boolean good = full || numbers.below(3) != 0;
        int kind = numbers.below(10);
        if (kind < 4 && (full || numbers.below(3) != 0)) {
            int from = argument(numbers, m.nodes, good);
            int to = argument(numbers, m.nodes, good);
            int width = argument(numbers, 5, good) + 1;
            int price = argument(numbers, numbers.below(9) == 0 ? 100 : dearest, good);
            same(name + " arc", m.arc(from, to, width, price), () -> "" + x.arc(from, to, width, price));
        } else if (kind < 7) {
            int arc = argument(numbers, Math.max(1, m.arcs()), good);
            int last = m.isArc(arc) ? m.prices.get(arc).get(m.capacity(arc) - 1) : 0;
            int width = argument(numbers, 5, good) + 1;
            int price = last + argument(numbers, numbers.below(9) == 0 ? 100 : dearest, good);
            same(name + " piece", m.piece(arc, width, price), () -> "" + x.piece(arc, width, price));
        } else {
            int source = argument(numbers, m.nodes, good);
            int target = argument(numbers, m.nodes, good);
            int amount = argument(numbers, full ? 21 : 8, good);
            same(name + " demand", m.demand(source, target, amount), () -> {
                x.demand(source, target, amount);
                return "";
            });
        }
    }

    private interface Call {
        String answer();
    }

    private static void same(String what, String want, Call call) {
        String got;
        try {
            got = call.answer();
        } catch (RuntimeException e) {
            got = e.getClass().getSimpleName();
        }
        CHECKS.due(what + " " + got + " for " + want, got.equals(want) ? 1 : 0, 1);
    }

    private static String answerOf(Call call) {
        try {
            return call.answer();
        } catch (RuntimeException e) {
            return e.getClass().getName();
        }
    }

    private static void compare(String run, ConvexConduit x, Model m) {
        CHECKS.due(run + " nodes", x.nodes(), m.nodes);
        CHECKS.due(run + " arcs", x.arcs(), m.arcs());
        for (int arc = -1; arc <= m.arcs(); arc++) {
            compareArc(run + " arc " + arc, x, m, arc);
        }
        compareDrivers(run, x, m);
        CHECKS.due(run + " most", x.most(), greatest(m));
        int[] cheapest = flow(m, m.amount, m.source, 0, weights(m, -1, 0));
        CHECKS.due(run + " cost", x.cost(), cheapest == null ? -1 : m.priceOf(cheapest));
        CHECKS.due(run + " costByCircles", x.costByCircles(), cheapest == null ? -1 : m.priceOf(cheapest));
        for (int node = 0; node < m.nodes; node++) {
            int[] with = flow(m, m.amount, node, 1, weights(m, -1, 0));
            int more = cheapest == null || with == null ? -1 : m.priceOf(with) - m.priceOf(cheapest);
            CHECKS.due(run + " more " + node, x.more(node), more);
        }
        compareFlows(run, x, m);
    }

    private static void compareArc(String what, ConvexConduit x, Model m, int arc) {
        String noArc = "java.lang.IndexOutOfBoundsException";
        if (!m.isArc(arc)) {
            String[] got = {answerOf(() -> "" + x.capacity(arc)), answerOf(() -> "" + x.price(arc, 1)),
                answerOf(() -> "" + x.flow(arc)), answerOf(() -> "" + x.leastOn(arc)),
                answerOf(() -> "" + x.mostOn(arc)), answerOf(() -> "" + x.drivenOn(arc))};
            for (String answer : got) {
                CHECKS.due(what + " refused", answer.equals(noArc) ? 1 : 0, 1);
            }
            return;
        }
        CHECKS.due(what + " capacity", x.capacity(arc), m.capacity(arc));
        for (int unit = 0; unit <= m.capacity(arc) + 1; unit++) {
            int asked = unit;
            boolean there = unit >= 1 && unit <= m.capacity(arc);
            String want = there ? "" + m.prices.get(arc).get(unit - 1) : noArc;
            CHECKS.due(what + " price of " + unit, answerOf(() -> "" + x.price(arc, asked)).equals(want) ? 1 : 0, 1);
        }
    }

    private static void compareDrivers(String run, ConvexConduit x, Model m) {
        int[] want = m.drivers();
        CHECKS.due(run + " driven", x.driven(), want[0] < m.amount ? -1 : want[1]);
        CHECKS.due(run + " lastPaid", x.lastPaid(), want[2]);
        for (int arc = 0; arc < m.arcs(); arc++) {
            CHECKS.due(run + " drivenOn " + arc, x.drivenOn(arc), want[3 + arc]);
        }
    }

    private static void compareFlows(String run, ConvexConduit x, Model m) {
        long[] order = new long[m.arcs()];
        for (int arc = 0; arc < order.length; arc++) {
            order[arc] = 1L << 4 * (11 - arc);
        }
        int[] chosen = flow(m, m.amount, m.source, 0, order);
        for (int arc = 0; arc < m.arcs(); arc++) {
            CHECKS.due(run + " flow " + arc, x.flow(arc), chosen == null ? -1 : chosen[arc]);
            int[] least = flow(m, m.amount, m.source, 0, weights(m, arc, 1));
            CHECKS.due(run + " leastOn " + arc, x.leastOn(arc), least == null ? -1 : least[arc]);
            int[] most = flow(m, m.amount, m.source, 0, weights(m, arc, -1));
            CHECKS.due(run + " mostOn " + arc, x.mostOn(arc), most == null ? -1 : most[arc]);
        }
    }

    private static long[] weights(Model m, int arc, long weight) {
        long[] weights = new long[m.arcs()];
        if (arc >= 0) {
            weights[arc] = weight;
        }
        return weights;
    }

    private static int greatest(Model m) {
        int amount = 0;
        while (flow(m, amount + 1, m.source, 0, null) != null) {
            amount++;
        }
        return amount;
    }

    /** A flow of least price and then least weight; null if there is none, any flow if weights are null. */
    private static int[] flow(Model m, int units, int extraNode, int extra, long[] weights) {
        int[] flow = new int[m.arcs()];
        for (int i = 0; i < units + extra; i++) {
            int last = i < extra ? extraNode : m.target;
            if (last != m.source && !turn(m, flow, depth(m, flow, m.source, last, new ArrayList<>(), 1 << m.source))) {
                return null;
            }
        }
        while (weights != null && turn(m, flow, circle(m, flow, weights))) {
            continue;
        }
        return flow;
    }

    private static boolean turn(Model m, int[] flow, List<Integer> steps) {
        if (steps == null) {
            return false;
        }
        for (int step : steps) {
            flow[step / 2] += step % 2 == 0 ? 1 : -1;
        }
        return true;
    }

    private static boolean isOpen(Model m, int[] flow, int step) {
        return step % 2 == 0 ? flow[step / 2] < m.capacity(step / 2) : flow[step / 2] > 0;
    }

    private static List<Integer> depth(Model m, int[] flow, int node, int last, List<Integer> begun, int seen) {
        int[] known = {seen};
        return depth(m, flow, node, last, begun, known) ? begun : null;
    }

    private static boolean depth(Model m, int[] flow, int node, int last, List<Integer> begun, int[] seen) {
        if (node == last) {
            return true;
        }
        for (int step = 0; step < 2 * m.arcs(); step++) {
            int next = m.ends.get(step / 2)[1 - step % 2];
            if (m.ends.get(step / 2)[step % 2] == node && isOpen(m, flow, step) && (seen[0] >> next & 1) == 0) {
                seen[0] |= 1 << next;
                begun.add(step);
                if (depth(m, flow, next, last, begun, seen)) {
                    return true;
                }
                begun.remove(begun.size() - 1);
            }
        }
        return false;
    }

    /**
     * A circle below 0 of the fewest steps, or null: from the least sums over each count of steps between any
     * two nodes. With fewer steps there is none, so that no node comes twice in it.
     */
    private static List<Integer> circle(Model m, int[] flow, long[] weights) {
        long[][][] least = new long[m.nodes][m.nodes + 1][m.nodes];
        int[][][] by = new int[m.nodes][m.nodes + 1][m.nodes];
        for (int start = 0; start < m.nodes; start++) {
            for (long[] row : least[start]) {
                java.util.Arrays.fill(row, Long.MAX_VALUE);
            }
            least[start][0][start] = 0;
        }
        for (int count = 1; count <= m.nodes; count++) {
            for (int start = 0; start < m.nodes; start++) {
                for (int step = 0; step < 2 * m.arcs(); step++) {
                    lessen(m, flow, weights, step, least[start][count - 1], least[start][count], by[start][count]);
                }
                if (least[start][count][start] < 0) {
                    return backFrom(m, start, count, by[start]);
                }
            }
        }
        return null;
    }

    private static void lessen(Model m, int[] flow, long[] weights, int step, long[] before, long[] now, int[] by) {
        int arc = step / 2;
        int start = m.ends.get(arc)[step % 2];
        int end = m.ends.get(arc)[1 - step % 2];
        if (!isOpen(m, flow, step) || before[start] == Long.MAX_VALUE) {
            return;
        }
        long price = m.prices.get(arc).get(step % 2 == 0 ? flow[arc] : flow[arc] - 1) * PRICE_WEIGHT + weights[arc];
        long sum = before[start] + (step % 2 == 0 ? price : -price);
        if (sum < now[end]) {
            now[end] = sum;
            by[end] = step;
        }
    }

    private static List<Integer> backFrom(Model m, int start, int count, int[][] by) {
        List<Integer> steps = new ArrayList<>();
        int node = start;
        for (int left = count; left > 0; left--) {
            int step = by[left][node];
            steps.add(step);
            node = m.ends.get(step / 2)[step % 2];
        }
        return steps;
    }
}
