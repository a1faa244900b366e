import java.util.ArrayList;
import java.util.List;

/** The network as the tests know it, and slow answers about it that share nothing with the class. */
final class Model {
    static final int NONE = -1;

    final int nodes;
    final List<int[]> ends = new ArrayList<>();
    final List<List<Integer>> prices = new ArrayList<>();
    final List<Integer> pieces = new ArrayList<>();
    int source = 0;
    int target = 1;
    int amount = 0;

    Model(int nodes) {
        this.nodes = Math.max(2, Math.min(8, nodes));
    }

    int arcs() {
        return ends.size();
    }

    int capacity(int arc) {
        return prices.get(arc).size();
    }

    boolean isNode(int node) {
        return node >= 0 && node < nodes;
    }

    boolean isArc(int arc) {
        return arc >= 0 && arc < arcs();
    }

    String arc(int from, int to, int width, int price) {
        if (!isNode(from) || !isNode(to)) {
            return "IndexOutOfBoundsException";
        }
        if (from == to || width < 1 || width > 5 || price < 0 || price > 99) {
            return "IllegalArgumentException";
        }
        if (arcs() == 12) {
            return "IllegalStateException";
        }
        ends.add(new int[] {from, to});
        prices.add(new ArrayList<>());
        pieces.add(0);
        addPiece(arcs() - 1, width, price);
        return "" + (arcs() - 1);
    }

    String piece(int arc, int width, int price) {
        if (!isArc(arc)) {
            return "IndexOutOfBoundsException";
        }
        int last = prices.get(arc).get(capacity(arc) - 1);
        if (width < 1 || width > 5 || price < last || price > 99) {
            return "IllegalArgumentException";
        }
        if (pieces.get(arc) == 3) {
            return "IllegalStateException";
        }
        addPiece(arc, width, price);
        return "" + capacity(arc);
    }

    private void addPiece(int arc, int width, int price) {
        for (int i = 0; i < width; i++) {
            prices.get(arc).add(price);
        }
        pieces.set(arc, pieces.get(arc) + 1);
    }

    String demand(int source, int target, int amount) {
        if (!isNode(source) || !isNode(target)) {
            return "IndexOutOfBoundsException";
        }
        if (source == target || amount < 0 || amount > 20) {
            return "IllegalArgumentException";
        }
        this.source = source;
        this.target = target;
        this.amount = amount;
        return "";
    }

    int priceOf(int[] flow) {
        int sum = 0;
        for (int arc = 0; arc < flow.length; arc++) {
            for (int unit = 0; unit < flow[arc]; unit++) {
                sum += prices.get(arc).get(unit);
            }
        }
        return sum;
    }

    /** Whether the amounts are a flow of the demand with some units more from the source to a node. */
    boolean isFlow(int[] flow, int units, int extraNode, int extra) {
        int[] out = new int[nodes];
        for (int arc = 0; arc < flow.length; arc++) {
            if (flow[arc] < 0 || flow[arc] > capacity(arc)) {
                return false;
            }
            out[ends.get(arc)[0]] += flow[arc];
            out[ends.get(arc)[1]] -= flow[arc];
        }
        out[source] -= units + extra;
        out[target] += units;
        out[extraNode] += extra;
        for (int node = 0; node < nodes; node++) {
            if (out[node] != 0) {
                return false;
            }
        }
        return true;
    }

    /** What the drivers do: {found, paid by all, paid by the last, taken on each arc ..}, from all ways there are. */
    int[] drivers() {
        int[] taken = new int[arcs()];
        int[] answer = new int[3 + arcs()];
        answer[2] = NONE;
        for (int i = 0; i < amount; i++) {
            int[] best = null;
            for (int[] way : ways(new ArrayList<>(), 1 << source, source, taken)) {
                if (best == null || isBetter(way, best, taken)) {
                    best = way;
                }
            }
            if (best == null) {
                break;
            }
            answer[0]++;
            answer[2] = paid(best, taken);
            answer[1] += answer[2];
            for (int arc : best) {
                taken[arc]++;
            }
        }
        System.arraycopy(taken, 0, answer, 3, taken.length);
        return answer;
    }

    private List<int[]> ways(List<Integer> begun, int seen, int node, int[] taken) {
        List<int[]> all = new ArrayList<>();
        if (node == target) {
            int[] way = new int[begun.size()];
            for (int i = 0; i < way.length; i++) {
                way[i] = begun.get(i);
            }
            all.add(way);
            return all;
        }
        for (int arc = 0; arc < arcs(); arc++) {
            int next = ends.get(arc)[1];
            if (ends.get(arc)[0] == node && taken[arc] < capacity(arc) && (seen >> next & 1) == 0) {
                begun.add(arc);
                all.addAll(ways(begun, seen | 1 << next, next, taken));
                begun.remove(begun.size() - 1);
            }
        }
        return all;
    }

    private int paid(int[] way, int[] taken) {
        int sum = 0;
        for (int arc : way) {
            sum += prices.get(arc).get(taken[arc]);
        }
        return sum;
    }

    private boolean isBetter(int[] way, int[] best, int[] taken) {
        int less = paid(best, taken) - paid(way, taken);
        if (less != 0) {
            return less > 0;
        }
        if (way.length != best.length) {
            return way.length < best.length;
        }
        for (int i = 0; i < way.length; i++) {
            if (way[i] != best[i]) {
                return way[i] < best[i];
            }
        }
        return false;
    }
}
