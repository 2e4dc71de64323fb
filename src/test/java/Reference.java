import java.util.ArrayList;
import java.util.Comparator;
import java.util.HashMap;
import java.util.HashSet;
import java.util.List;
import java.util.Map;
import java.util.Set;
import java.util.TreeMap;
import java.util.TreeSet;

/**
 * The document told a second time, with lists, sets and maps and no thought of speed. It shares no code with
 * ColourProof, so that the same slip is not likely to be in both.
 */
final class Reference {
    private record Line(int op, int number) {
    }

    private static final class Full extends RuntimeException {
        private static final long serialVersionUID = 1L;
    }

    private final int limit;
    private int n = 0;
    private Set<List<Integer>> edges = new HashSet<>();
    private List<Line> told = new ArrayList<>();
    private final Map<Integer, Integer> paint = new HashMap<>();

    private boolean solved = false;
    private Map<Integer, Integer> best = new HashMap<>();
    private List<Line> log = new ArrayList<>();
    private int[] work = new int[5];

    Reference() {
        this(3000);
    }

    /** Another limit than the document's lets tests see how long a log would become. */
    Reference(int limit) {
        this.limit = limit;
    }

    int graph(int size) {
        if (size < 0 || size > 30) {
            return -1;
        }
        n = size;
        edges.clear();
        solved = false;
        return size;
    }

    int edge(int a, int b, boolean on) {
        if (!vertex(a) || !vertex(b) || a == b) {
            return -1;
        }
        boolean changed = on ? edges.add(pair(a, b)) : edges.remove(pair(a, b));
        if (changed) {
            solved = false;
        }
        return changed ? 1 : 0;
    }

    int draw(int seed, int part) {
        if (part < 0 || part > 100) {
            return -1;
        }
        edges.clear();
        solved = false;
        int x = seed;
        for (int a = 0; a < n; a++) {
            for (int b = a + 1; b < n; b++) {
                x = x * 1103515245 + 12345;
                if (((x >> 16) & 0xffff) % 100 < part) {
                    edges.add(pair(a, b));
                }
            }
        }
        return edges.size();
    }

    int turn(int factor, int shift) {
        if (n == 0 || shift < 0 || shift >= n || factor < 1 || factor > 30 || gcd(factor, n) > 1) {
            return -1;
        }
        Set<List<Integer>> turned = new HashSet<>();
        for (List<Integer> edge : edges) {
            turned.add(pair((edge.get(0) * factor + shift) % n, (edge.get(1) * factor + shift) % n));
        }
        edges = turned;
        solved = false;
        return 1;
    }

    int count(int what) {
        switch (what) {
            case 0:
                return n;
            case 1:
                return edges.size();
            case 2:
                return all().stream().mapToInt(this::degree).max().orElse(0);
            default:
                return -1;
        }
    }

    boolean has(int a, int b) {
        return edges.contains(pair(a, b));
    }

    int degree(int v) {
        return vertex(v) ? neighbours(v).size() : -1;
    }

    int solve() {
        solved = false;
        int[] done = new int[5];
        Map<Integer, Integer> found = firstColouring();
        int colours = different(found);
        List<Integer> clique = theClique();
        List<Line> proof = null;
        while (proof == null && colours > clique.size()) {
            List<Line> written = new ArrayList<>();
            Map<Integer, Integer> colouring = new TreeMap<>();
            boolean success;
            try {
                success = visit(colours - 1, colouring, written);
            } catch (Full full) {
                return -3;
            }
            done[0]++;
            done[1] += written.size();
            done[2] += (int) written.stream().filter(l -> l.op() == 1).count();
            done[3] += (int) written.stream().filter(l -> l.op() == 4).count();
            if (success) {
                done[4]++;
                found = colouring;
                colours = different(found);
            } else {
                proof = written;
            }
        }
        if (proof == null) {
            proof = new ArrayList<>();
            if (colours > 0) {
                proof.add(new Line(4, set(clique)));
            }
        }
        best = found;
        log = proof;
        work = done;
        solved = true;
        return colours;
    }

    int colour(int v) {
        return !vertex(v) ? -1 : solved ? best.get(v) : -2;
    }

    int clique() {
        return set(theClique());
    }

    int first() {
        return different(firstColouring());
    }

    int lines() {
        return solved ? log.size() : -2;
    }

    int line(int i, int what) {
        return solved ? part(log, i, what) : -2;
    }

    int work(int what) {
        return !solved ? -2 : what < 0 || what > 4 ? -1 : work[what];
    }

    int search(int k) {
        if (k < 0 || k > 30) {
            return -1;
        }
        List<Line> written = new ArrayList<>();
        try {
            boolean found = visit(k, new TreeMap<>(), written);
            told = written;
            return found ? 1 : 0;
        } catch (Full full) {
            return -3;
        }
    }

    int tell(int op, int number) {
        if (op < 1 || op > 4) {
            return -1;
        }
        if (told.size() == limit) {
            return -3;
        }
        told.add(new Line(op, number));
        return told.size();
    }

    int take() {
        if (!solved) {
            return -2;
        }
        told = new ArrayList<>(log);
        return told.size();
    }

    int alter(int i, int op, int number) {
        if (i < 0 || i >= told.size() || op < 1 || op > 4) {
            return -1;
        }
        told.set(i, new Line(op, number));
        return 1;
    }

    int cut(int size) {
        if (size < 0 || size > told.size()) {
            return -1;
        }
        told = new ArrayList<>(told.subList(0, size));
        return size;
    }

    int told(int i, int what) {
        return part(told, i, what);
    }

    int toldLines() {
        return told.size();
    }

    /**
     * By a stack of what is wanted next, not by recursion: a Step is a branch that waits for its colour c, with the
     * colouring of its own; null on the stack stands for a proof that is wanted.
     */
    int check(int k) {
        if (k < 0 || k > 30) {
            return -2;
        }
        Map<Integer, Integer> colouring = new TreeMap<>();
        List<int[]> open = new ArrayList<>();
        boolean wantsProof = true;
        for (int i = 0; i <= told.size(); i++) {
            // Branches that have had all their colours are done, and with them the TRY that they stand behind.
            while (!wantsProof && !open.isEmpty()) {
                int[] top = open.get(open.size() - 1);
                colouring.remove(top[0]);
                if (top[1] < k && top[1] <= different(colouring)) {
                    break;
                }
                open.remove(open.size() - 1);
            }
            if (!wantsProof && open.isEmpty()) {
                return i == told.size() ? -1 : i;
            }
            if (i == told.size()) {
                return i;
            }
            Line line = told.get(i);
            if (wantsProof) {
                if (line.op() == 4 && closes(line.number(), colouring, k)) {
                    wantsProof = false;
                } else if (line.op() == 1 && vertex(line.number()) && !colouring.containsKey(line.number())) {
                    open.add(new int[] {line.number(), 0});
                    wantsProof = false;
                } else {
                    return i;
                }
                continue;
            }
            int[] top = open.get(open.size() - 1);
            Set<Integer> bearers = new TreeSet<>();
            for (int w : neighbours(top[0])) {
                if (colouring.containsKey(w) && colouring.get(w) == top[1]) {
                    bearers.add(w);
                }
            }
            if (bearers.isEmpty()) {
                if (line.op() != 3 || line.number() != top[1]) {
                    return i;
                }
                colouring.put(top[0], top[1]);
                wantsProof = true;
            } else if (line.op() != 2 || !bearers.contains(line.number())) {
                return i;
            }
            top[1]++;
        }
        throw new IllegalStateException("the end of the log was passed");
    }

    int paint(int v, int c) {
        if (v < 0 || v > 29 || c < -1 || c > 29) {
            return -2;
        }
        int old = paint.getOrDefault(v, -1);
        paint.put(v, c);
        return old;
    }

    int copy() {
        if (!solved) {
            return -2;
        }
        paint.putAll(best);
        return n;
    }

    int clashes() {
        int clashes = 0;
        for (List<Integer> edge : edges) {
            int a = painted(edge.get(0));
            if (a != -1 && a == painted(edge.get(1))) {
                clashes++;
            }
        }
        return clashes;
    }

    int used() {
        return paints(all());
    }

    int chain(int v, int c) {
        if (!vertex(v) || c < 0 || c > 29 || painted(v) == -1 || painted(v) == c) {
            return -1;
        }
        int own = painted(v);
        List<Integer> chain = new ArrayList<>();
        chain.add(v);
        for (int i = 0; i < chain.size(); i++) {
            for (int w : neighbours(chain.get(i))) {
                if (!chain.contains(w) && (painted(w) == own || painted(w) == c)) {
                    chain.add(w);
                }
            }
        }
        for (int w : chain) {
            paint.put(w, own + c - painted(w));
        }
        return chain.size();
    }

    int saturation(int v) {
        return vertex(v) ? paints(neighbours(v)) : -1;
    }

    private boolean visit(int k, Map<Integer, Integer> colouring, List<Line> written) {
        if (colouring.size() == n) {
            return true;
        }
        List<Integer> order = new ArrayList<>(all());
        order.removeAll(colouring.keySet());
        order.sort(Comparator.comparingInt((Integer v) -> -seen(v, colouring).size())
                .thenComparingInt(v -> -degree(v))
                .thenComparingInt(v -> v));
        List<Integer> taken = new ArrayList<>();
        Set<Integer> free = new TreeSet<>();
        for (int v : order) {
            if (neighbours(v).containsAll(taken)) {
                taken.add(v);
                free.addAll(free(v, colouring, k));
                if (free.size() < taken.size()) {
                    write(4, set(taken), written);
                    return false;
                }
            }
        }
        int v = choice(colouring);
        write(1, v, written);
        int standing = different(colouring);
        for (int c = 0; c < k && c <= standing; c++) {
            int blocker = -1;
            for (int w : neighbours(v)) {
                if (blocker < 0 && colouring.containsKey(w) && colouring.get(w) == c) {
                    blocker = w;
                }
            }
            if (blocker >= 0) {
                write(2, blocker, written);
                continue;
            }
            write(3, c, written);
            colouring.put(v, c);
            if (visit(k, colouring, written)) {
                return true;
            }
            colouring.remove(v);
        }
        return false;
    }

    private void write(int op, int number, List<Line> written) {
        if (written.size() == limit) {
            throw new Full();
        }
        written.add(new Line(op, number));
    }

    private boolean closes(int number, Map<Integer, Integer> colouring, int k) {
        Set<Integer> members = new TreeSet<>();
        for (int v = 0; v < 32; v++) {
            if ((number >>> v) % 2 != 0) {
                members.add(v);
            }
        }
        Set<Integer> free = new TreeSet<>();
        for (int v : members) {
            if (!vertex(v) || colouring.containsKey(v)) {
                return false;
            }
            for (int w : members) {
                if (v != w && !has(v, w)) {
                    return false;
                }
            }
            free.addAll(free(v, colouring, k));
        }
        return free.size() < members.size();
    }

    private List<Integer> theClique() {
        List<Integer> order = new ArrayList<>(all());
        order.sort(Comparator.comparingInt((Integer v) -> -degree(v)).thenComparingInt(v -> v));
        List<Integer> taken = new ArrayList<>();
        for (int v : order) {
            if (neighbours(v).containsAll(taken)) {
                taken.add(v);
            }
        }
        return taken;
    }

    private Map<Integer, Integer> firstColouring() {
        Map<Integer, Integer> colouring = new TreeMap<>();
        while (colouring.size() < n) {
            int v = choice(colouring);
            int c = 0;
            while (seen(v, colouring).contains(c)) {
                c++;
            }
            colouring.put(v, c);
        }
        return colouring;
    }

    private int choice(Map<Integer, Integer> colouring) {
        List<Integer> order = new ArrayList<>(all());
        order.removeAll(colouring.keySet());
        order.sort(Comparator.comparingInt((Integer v) -> -seen(v, colouring).size())
                .thenComparingInt(v -> -(int) neighbours(v).stream().filter(w -> !colouring.containsKey(w)).count())
                .thenComparingInt(v -> v));
        return order.get(0);
    }

    private Set<Integer> seen(int v, Map<Integer, Integer> colouring) {
        Set<Integer> seen = new TreeSet<>();
        for (int w : neighbours(v)) {
            if (colouring.containsKey(w)) {
                seen.add(colouring.get(w));
            }
        }
        return seen;
    }

    private Set<Integer> free(int v, Map<Integer, Integer> colouring, int k) {
        Set<Integer> free = new TreeSet<>();
        for (int c = 0; c < k; c++) {
            free.add(c);
        }
        free.removeAll(seen(v, colouring));
        return free;
    }

    private int paints(Set<Integer> vertices) {
        Set<Integer> paints = new TreeSet<>();
        for (int v : vertices) {
            if (painted(v) != -1) {
                paints.add(painted(v));
            }
        }
        return paints.size();
    }

    private int painted(int v) {
        return paint.getOrDefault(v, -1);
    }

    private Set<Integer> all() {
        Set<Integer> all = new TreeSet<>();
        for (int v = 0; v < n; v++) {
            all.add(v);
        }
        return all;
    }

    private Set<Integer> neighbours(int v) {
        Set<Integer> neighbours = new TreeSet<>();
        for (int w = 0; w < n; w++) {
            if (has(v, w)) {
                neighbours.add(w);
            }
        }
        return neighbours;
    }

    private boolean vertex(int v) {
        return 0 <= v && v < n;
    }

    private static int part(List<Line> lines, int i, int what) {
        if (i < 0 || i >= lines.size() || what < 0 || what > 1) {
            return -1;
        }
        return what == 0 ? lines.get(i).op() : lines.get(i).number();
    }

    private static int different(Map<Integer, Integer> colouring) {
        return new HashSet<>(colouring.values()).size();
    }

    private static int set(List<Integer> vertices) {
        return vertices.stream().mapToInt(v -> 1 << v).sum();
    }

    private static List<Integer> pair(int a, int b) {
        return List.of(Math.min(a, b), Math.max(a, b));
    }

    private static int gcd(int a, int b) {
        return b == 0 ? a : gcd(b, a % b);
    }
}
