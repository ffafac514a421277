import java.util.ArrayList;
import java.util.List;
import java.util.Random;

/**
 * Long runs of drawn calls on the class and on a plain second telling of the document; every answer,
 * and behind every call all that can be asked, must be the same.
 */
public final class ModelTest {
    private static final int CALLS = 512;

    /** The document's terms, told as plainly as can be. */
    private static final class Model {
        final int n;
        final List<List<List<int[]>>> rows = new ArrayList<>();
        final boolean[] active;
        final int[] parent;
        final int[] owed;
        final int[] count;
        final boolean[] black;
        final boolean[][] waits;
        final boolean[][] pending;
        final int[][] mattered;
        final int[] dead;
        final int[] probings;
        boolean started;
        boolean treeTold;
        boolean ringTold;
        int holder = 0;
        int round;
        int sum;
        boolean tokenBlack;
        int received;
        int wrong;
        int falsely;

        Model(int processes) {
            n = processes < 2 ? 2 : processes > 10 ? 10 : processes;
            active = new boolean[n];
            parent = new int[n];
            owed = new int[n];
            count = new int[n];
            black = new boolean[n];
            waits = new boolean[n][n];
            pending = new boolean[n][n];
            mattered = new int[n][n];
            dead = new int[n];
            probings = new int[n];
            for (int p = 0; p < n; p++) {
                parent[p] = -1;
                rows.add(new ArrayList<>());
                for (int q = 0; q < n; q++) {
                    rows.get(p).add(new ArrayList<>());
                }
            }
        }

        boolean is(int p) {
            return 0 <= p && p < n;
        }

        int number(boolean[] of) {
            int number = 0;
            for (boolean one : of) {
                number += one ? 1 : 0;
            }
            return number;
        }

        boolean blocked(int p) {
            return number(waits[p]) > 0;
        }

        boolean inTree(int p) {
            return p == 0 ? started && !treeTold : parent[p] >= 0;
        }

        int inRow(int p, int q, int kind) {
            return (int) rows.get(p).get(q).stream().filter(m -> m[0] == kind).count();
        }

        int underWay(int kind) {
            int all = 0;
            for (int p = 0; p < n; p++) {
                for (int q = 0; q < n; q++) {
                    all += kind == 0 ? rows.get(p).get(q).size() : inRow(p, q, kind);
                }
            }
            return all;
        }

        void put(int p, int q, int kind, int began, int number) {
            rows.get(p).get(q).add(new int[] {kind, began, number});
        }

        void behind(boolean ringTellsNow) {
            boolean treeTellsNow = false;
            for (int p = 0; p < n; p++) {
                if (inTree(p) && !active[p] && owed[p] == 0) {
                    if (p == 0) {
                        treeTold = true;
                        treeTellsNow = true;
                    } else {
                        put(p, parent[p], 2, -1, -1);
                        parent[p] = -1;
                    }
                }
            }
            wrong += treeTellsNow && !quiet() ? 1 : 0;
            wrong += ringTellsNow && !quiet() ? 1 : 0;
        }

        boolean start() {
            if (started) {
                return false;
            }
            started = true;
            active[0] = true;
            return true;
        }

        boolean send(int p, int q) {
            if (!is(p) || !is(q) || p == q || !active[p] || blocked(p) || inRow(p, q, 1) == 20 || owed[p] == 100) {
                return false;
            }
            put(p, q, 1, -1, -1);
            owed[p]++;
            count[p]++;
            return true;
        }

        boolean rest(int p) {
            if (!is(p) || !active[p] || blocked(p)) {
                return false;
            }
            active[p] = false;
            behind(false);
            return true;
        }

        int ask(int p, int mask) {
            if (!is(p) || !active[p] || blocked(p)) {
                return -1;
            }
            int asked = 0;
            for (int q = 0; q < n; q++) {
                if (q != p && (mask >> q) % 2 != 0) {
                    asked++;
                    waits[p][q] = true;
                    put(p, q, 4, -1, -1);
                }
            }
            return asked == 0 ? -1 : asked;
        }

        boolean answer(int q, int p) {
            if (!is(q) || !is(p) || blocked(q) || !pending[q][p]) {
                return false;
            }
            pending[q][p] = false;
            put(q, p, 5, -1, -1);
            return true;
        }

        void probes(int k, int began, int number) {
            for (int q = 0; q < n; q++) {
                if (waits[k][q]) {
                    put(k, q, 6, began, number);
                }
            }
        }

        int probe(int p) {
            if (!is(p) || !blocked(p) || probings[p] == 50) {
                return -1;
            }
            probes(p, p, ++probings[p]);
            return probings[p];
        }

        int pass(int p) {
            if (!is(p) || holder != p || active[p] || !started || ringTold) {
                return -1;
            }
            if (p == 0 && round > 0 && !tokenBlack && !black[0] && sum + count[0] == 0) {
                ringTold = true;
                behind(true);
                return 2;
            }
            if (p == 0) {
                round++;
                tokenBlack = false;
                sum = 0;
            } else {
                sum += count[p];
                tokenBlack |= black[p];
            }
            black[p] = false;
            holder = -1;
            put(p, p == 0 ? n - 1 : p - 1, 3, -1, -1);
            return 1;
        }

        boolean hangsOn(int p, int q) {
            return waits[p][q] && inRow(q, p, 5) == 0;
        }

        boolean inRing(int p) {
            boolean[][] way = new boolean[n][n];
            for (int a = 0; a < n; a++) {
                for (int b = 0; b < n; b++) {
                    way[a][b] = hangsOn(a, b);
                }
            }
            for (int over = 0; over < n; over++) {
                for (int a = 0; a < n; a++) {
                    for (int b = 0; b < n; b++) {
                        way[a][b] |= way[a][over] && way[over][b];
                    }
                }
            }
            return way[p][p];
        }

        int receive(int p, int q) {
            if (!is(p) || !is(q) || rows.get(p).get(q).isEmpty()) {
                return -1;
            }
            int[] m = rows.get(p).get(q).remove(0);
            received++;
            if (m[0] == 1) {
                active[q] = true;
                count[q]--;
                black[q] = true;
                if (inTree(q)) {
                    put(q, p, 2, -1, -1);
                } else {
                    parent[q] = p;
                }
            } else if (m[0] == 2) {
                owed[q]--;
            } else if (m[0] == 3) {
                holder = q;
            } else if (m[0] == 4) {
                pending[q][p] = true;
            } else if (m[0] == 5) {
                waits[q][p] = false;
            } else if (blocked(q) && pending[q][p]) {
                if (m[1] == q) {
                    dead[q]++;
                    falsely += inRing(q) ? 0 : 1;
                } else if (m[2] > mattered[q][m[1]]) {
                    mattered[q][m[1]] = m[2];
                    probes(q, m[1], m[2]);
                }
            }
            behind(false);
            return m[0];
        }

        int run(int times, int seed) {
            if (times < 0 || times > 2000) {
                return -1;
            }
            int done = 0;
            long s = seed;
            for (int i = 0; i < times; i++) {
                s = s * 1103515245L + 12345L & 0xffffffffL;
                int k = (int) (s >> 16) % (n * n);
                done += (k / n == k % n ? pass(k / n) : receive(k / n, k % n)) > 0 ? 1 : 0;
            }
            return done;
        }

        int told(int p, int what) {
            if (!is(p) || what < 0 || what > 11) {
                return -1;
            }
            return new int[] {
                active[p] ? 1 : 0, blocked(p) ? 1 : 0, inTree(p) ? 1 : 0, parent[p], owed[p], count[p],
                black[p] ? 1 : 0, holder == p ? 1 : 0, number(waits[p]), number(pending[p]), dead[p], probings[p]
            }[what];
        }

        boolean waits(int p, int q) {
            return is(p) && is(q) && waits[p][q];
        }

        int message(int p, int q, int i, int what) {
            if (!is(p) || !is(q) || i < 0 || i >= rows.get(p).get(q).size() || what < 0 || what > 2) {
                return -1;
            }
            return rows.get(p).get(q).get(i)[what];
        }

        boolean quiet() {
            return number(active) == 0 && underWay(1) == 0;
        }

        int count(int what) {
            int deads = 0;
            for (int one : dead) {
                deads += one;
            }
            return what < 0 || what > 9 ? -1 : new int[] {
                n, treeTold ? 1 : 0, ringTold ? 1 : 0, round, sum, tokenBlack ? 1 : 0,
                underWay(0), underWay(1), received, deads
            }[what];
        }
    }

    private static int wrong = 0;
    private static int runNumber = 0;

    private static void due(String call, int got, int want) {
        if (got != want && wrong++ < 20) {
            System.out.println("run " + runNumber + ": " + call + " answered " + got + ", due is " + want);
        }
    }

    private static void due(String call, boolean got, boolean want) {
        due(call, got ? 1 : 0, want ? 1 : 0);
    }

    /** How often each call is drawn: send, rest, ask, answer, probe, pass, receive, run. */
    private static final int[][] MOODS = {
        {3, 2, 0, 0, 0, 2, 8, 0},
        {3, 4, 0, 0, 0, 1, 4, 1},
        {4, 1, 2, 4, 2, 1, 10, 0},
        {4, 0, 8, 1, 8, 0, 20, 0},
        {9, 0, 1, 1, 1, 1, 1, 0},
        {2, 1, 3, 1, 20, 1, 5, 1},
        {2, 2, 2, 2, 2, 2, 2, 2},
        {4, 4, 1, 4, 1, 1, 12, 1},
    };

    private final Random random;
    private final int[] mood;
    private final QuietWatch x;
    private final Model y;

    private ModelTest(int seed) {
        random = new Random(seed);
        mood = MOODS[seed % MOODS.length];
        int processes = seed % 5 == 0 ? 2 : random.nextInt(14) - 1;
        x = new QuietWatch(processes);
        y = new Model(processes);
    }

    private int process() {
        return random.nextInt(40) == 0 ? random.nextInt(80) - 40 : random.nextInt(y.n);
    }

    private int which() {
        int all = 0;
        for (int often : mood) {
            all += often;
        }
        int left = random.nextInt(all);
        int call = 0;
        while (left >= mood[call]) {
            left -= mood[call++];
        }
        return call;
    }

    private void receiveSome() {
        int p = process();
        int q = process();
        // Most rows are empty: look for one that isn't, so that most receives do something.
        for (int i = 0; i < 30 && y.message(p, q, 0, 0) < 0; i++) {
            p = process();
            q = process();
        }
        due("receive(" + p + ", " + q + ")", x.receive(p, q), y.receive(p, q));
    }

    private void callOne() {
        int p = process();
        int q = process();
        int number = random.nextInt();
        switch (which()) {
            case 0 -> due("send(" + p + ", " + q + ")", x.send(p, q), y.send(p, q));
            case 1 -> due("rest(" + p + ")", x.rest(p), y.rest(p));
            case 2 -> {
                int mask = random.nextInt(3) == 0 ? number : 1 << (number & 15);
                due("ask(" + p + ", " + mask + ")", x.ask(p, mask), y.ask(p, mask));
            }
            case 3 -> due("answer(" + p + ", " + q + ")", x.answer(p, q), y.answer(p, q));
            case 4 -> due("probe(" + p + ")", x.probe(p), y.probe(p));
            case 5 -> {
                int at = y.holder >= 0 && random.nextBoolean() ? y.holder : p;
                due("pass(" + at + ")", x.pass(at), y.pass(at));
            }
            case 6 -> receiveSome();
            default -> {
                int n = random.nextInt(20) == 0 ? random.nextInt(2200) - 100 : random.nextInt(60);
                due("run(" + n + ", " + number + ")", x.run(n, number), y.run(n, number));
            }
        }
    }

    private void compareAll() {
        for (int p = -1; p <= y.n; p++) {
            for (int what = -1; what <= 12; what++) {
                due("told(" + p + ", " + what + ")", x.told(p, what), y.told(p, what));
            }
            for (int q = -1; q <= y.n; q++) {
                due("waits(" + p + ", " + q + ")", x.waits(p, q), y.waits(p, q));
                compareRow(p, q);
            }
        }
        for (int what = -1; what <= 10; what++) {
            due("count(" + what + ")", x.count(what), y.count(what));
        }
        due("quiet()", x.quiet(), y.quiet());
        due("wrong()", x.wrong(), y.wrong);
        due("falsely()", x.falsely(), y.falsely);
    }

    private void compareRow(int p, int q) {
        int size = y.is(p) && y.is(q) ? y.rows.get(p).get(q).size() : 0;
        for (int i = -1; i <= size; i++) {
            for (int what = 0; what <= 2; what++) {
                due("message(" + p + ", " + q + ", " + i + ", " + what + ")", x.message(p, q, i, what), y.message(p, q, i, what));
            }
        }
    }

    private void go() {
        for (int call = 0; call < CALLS; call++) {
            if (call == 5) {
                due("start()", x.start(), y.start());
            }
            callOne();
            if (call % 7 == 0 || call == CALLS - 1) {
                compareAll();
            }
        }
    }

    /** All wait for all, and every probing is begun: the rows grow as long as they can. */
    private static void fullRows() {
        QuietWatch x = new QuietWatch(10);
        Model y = new Model(10);
        x.start();
        y.start();
        for (int q = 1; q < 10; q++) {
            due("send", x.send(0, q), y.send(0, q));
            due("receive", x.receive(0, q), y.receive(0, q));
        }
        for (int p = 0; p < 10; p++) {
            due("ask", x.ask(p, -1), y.ask(p, -1));
        }
        due("run", x.run(2000, 1), y.run(2000, 1));
        for (int i = 0; i < 501; i++) {
            due("probe", x.probe(i % 10), y.probe(i % 10));
        }
        for (int i = 0; i < 100; i++) {
            due("run", x.run(2000, i), y.run(2000, i));
            due("count(6)", x.count(6), y.count(6));
            due("count(9)", x.count(9), y.count(9));
        }
        due("nothing is under way at last", x.count(6), 0);
        due("falsely()", x.falsely(), 0);
    }

    public static void main(String[] args) {
        int treeEnds = 0;
        int ringEnds = 0;
        int deads = 0;
        for (runNumber = 0; runNumber < 400; runNumber++) {
            ModelTest test = new ModelTest(runNumber);
            test.go();
            treeEnds += test.y.count(1);
            ringEnds += test.y.count(2);
            deads += test.y.count(9);
        }
        fullRows();
        System.out.println(treeEnds + " ends by the tree, " + ringEnds + " by the ring, " + deads + " told to be dead");
        System.out.println(wrong == 0 ? "all answers are as due" : wrong + " answers are not as due");
        if (wrong != 0 || treeEnds == 0 || ringEnds == 0 || deads == 0) {
            System.exit(1);
        }
    }
}
