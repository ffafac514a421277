import java.util.ArrayList;
import java.util.List;
import java.util.Random;

/**
 * Long runs of drawn calls on the class and on a plain second telling of the document; every answer
 * must be the same, and now and then all that can be asked.
 */
public final class ModelTest {
    /** Behind so many calls on one object nothing is promised. */
    private static final int LAST_CALL = 512;
    private static final int DRAWN_CALLS = 480;
    private static final int CALLS_TILL_ALL_IS_COMPARED = 40;

    /** The document's terms, told as plainly as can be. */
    private static final class Model {
        final int n;
        final List<List<List<int[]>>> rows = new ArrayList<>();
        final boolean[] active;
        final int[] parent;
        final int[] owed;
        final int[] count;
        final boolean[] black;
        final boolean[][] waits;
        final boolean[][] pending;
        final int[][] mattered;
        final int[] dead;
        final int[] probings;
        boolean started;
        boolean treeTold;
        boolean ringTold;
        int holder = 0;
        int round;
        int sum;
        boolean tokenBlack;
        int received;
        int wrong;
        int falsely;

        Model(int processes) {
            n = processes < 2 ? 2 : processes > 10 ? 10 : processes;
            active = new boolean[n];
            parent = new int[n];
            owed = new int[n];
            count = new int[n];
            black = new boolean[n];
            waits = new boolean[n][n];
            pending = new boolean[n][n];
            mattered = new int[n][n];
            dead = new int[n];
            probings = new int[n];
            for (int p = 0; p < n; p++) {
                parent[p] = -1;
                rows.add(new ArrayList<>());
                for (int q = 0; q < n; q++) {
                    rows.get(p).add(new ArrayList<>());
                }
            }
        }

        boolean is(int p) {
            return 0 <= p && p < n;
        }

        int number(boolean[] of) {
            int number = 0;
            for (boolean one : of) {
                number += one ? 1 : 0;
            }
            return number;
        }

        boolean blocked(int p) {
            return number(waits[p]) > 0;
        }

        boolean inTree(int p) {
            return p == 0 ? started && !treeTold : parent[p] >= 0;
        }

        int inRow(int p, int q, int kind) {
            return (int) rows.get(p).get(q).stream().filter(m -> m[0] == kind).count();
        }

        int underWay(int kind) {
            int all = 0;
            for (int p = 0; p < n; p++) {
                for (int q = 0; q < n; q++) {
                    all += kind == 0 ? rows.get(p).get(q).size() : inRow(p, q, kind);
                }
            }
            return all;
        }

        void put(int p, int q, int kind, int began, int number) {
            rows.get(p).get(q).add(new int[] {kind, began, number});
        }

        void behind(boolean ringTellsNow) {
            boolean treeTellsNow = false;
            for (int p = 0; p < n; p++) {
                if (inTree(p) && !active[p] && owed[p] == 0) {
                    if (p == 0) {
                        treeTold = true;
                        treeTellsNow = true;
                    } else {
                        put(p, parent[p], 2, -1, -1);
                        parent[p] = -1;
                    }
                }
            }
            wrong += treeTellsNow && !quiet() ? 1 : 0;
            wrong += ringTellsNow && !quiet() ? 1 : 0;
        }

        boolean start() {
            if (started) {
                return false;
            }
            started = true;
            active[0] = true;
            return true;
        }

        boolean send(int p, int q) {
            if (!is(p) || !is(q) || p == q || !active[p] || blocked(p) || inRow(p, q, 1) == 20 || owed[p] == 100) {
                return false;
            }
            put(p, q, 1, -1, -1);
            owed[p]++;
            count[p]++;
            return true;
        }

        boolean rest(int p) {
            if (!is(p) || !active[p] || blocked(p)) {
                return false;
            }
            active[p] = false;
            behind(false);
            return true;
        }

        int ask(int p, int mask) {
            if (!is(p) || !active[p] || blocked(p)) {
                return -1;
            }
            int asked = 0;
            for (int q = 0; q < n; q++) {
                if (q != p && (mask >> q) % 2 != 0) {
                    asked++;
                    waits[p][q] = true;
                    put(p, q, 4, -1, -1);
                }
            }
            return asked == 0 ? -1 : asked;
        }

        boolean answer(int q, int p) {
            if (!is(q) || !is(p) || blocked(q) || !pending[q][p]) {
                return false;
            }
            pending[q][p] = false;
            put(q, p, 5, -1, -1);
            return true;
        }

        void probes(int k, int began, int number) {
            for (int q = 0; q < n; q++) {
                if (waits[k][q]) {
                    put(k, q, 6, began, number);
                }
            }
        }

        int probe(int p) {
            if (!is(p) || !blocked(p) || probings[p] == 50) {
                return -1;
            }
            probes(p, p, ++probings[p]);
            return probings[p];
        }

        int pass(int p) {
            if (!is(p) || holder != p || active[p] || !started || ringTold) {
                return -1;
            }
            if (p == 0 && round > 0 && !tokenBlack && !black[0] && sum + count[0] == 0) {
                ringTold = true;
                behind(true);
                return 2;
            }
            if (p == 0) {
                round++;
                tokenBlack = false;
                sum = 0;
            } else {
                sum += count[p];
                tokenBlack |= black[p];
            }
            black[p] = false;
            holder = -1;
            put(p, p == 0 ? n - 1 : p - 1, 3, -1, -1);
            return 1;
        }

        boolean hangsOn(int p, int q) {
            return waits[p][q] && inRow(q, p, 5) == 0;
        }

        boolean inRing(int p) {
            boolean[][] way = new boolean[n][n];
            for (int a = 0; a < n; a++) {
                for (int b = 0; b < n; b++) {
                    way[a][b] = hangsOn(a, b);
                }
            }
            for (int over = 0; over < n; over++) {
                for (int a = 0; a < n; a++) {
                    for (int b = 0; b < n; b++) {
                        way[a][b] |= way[a][over] && way[over][b];
                    }
                }
            }
            return way[p][p];
        }

        int receive(int p, int q) {
            if (!is(p) || !is(q) || rows.get(p).get(q).isEmpty()) {
                return -1;
            }
            int[] m = rows.get(p).get(q).remove(0);
            received++;
            if (m[0] == 1) {
                active[q] = true;
                count[q]--;
                black[q] = true;
                if (inTree(q)) {
                    put(q, p, 2, -1, -1);
                } else {
                    parent[q] = p;
                }
            } else if (m[0] == 2) {
                owed[q]--;
            } else if (m[0] == 3) {
                holder = q;
            } else if (m[0] == 4) {
                pending[q][p] = true;
            } else if (m[0] == 5) {
                waits[q][p] = false;
            } else if (blocked(q) && pending[q][p]) {
                if (m[1] == q) {
                    dead[q]++;
                    falsely += inRing(q) ? 0 : 1;
                } else if (m[2] > mattered[q][m[1]]) {
                    mattered[q][m[1]] = m[2];
                    probes(q, m[1], m[2]);
                }
            }
            behind(false);
            return m[0];
        }

        int run(int times, int seed) {
            if (times < 0 || times > 2000) {
                return -1;
            }
            int done = 0;
            long s = seed;
            for (int i = 0; i < times; i++) {
                s = s * 1103515245L + 12345L & 0xffffffffL;
                int k = (int) (s >> 16) % (n * n);
                done += (k / n == k % n ? pass(k / n) : receive(k / n, k % n)) > 0 ? 1 : 0;
            }
            return done;
        }

        int told(int p, int what) {
            if (!is(p) || what < 0 || what > 11) {
                return -1;
            }
            return new int[] {
                active[p] ? 1 : 0, blocked(p) ? 1 : 0, inTree(p) ? 1 : 0, parent[p], owed[p], count[p],
                black[p] ? 1 : 0, holder == p ? 1 : 0, number(waits[p]), number(pending[p]), dead[p], probings[p]
            }[what];
        }

        boolean waits(int p, int q) {
            return is(p) && is(q) && waits[p][q];
        }

        int message(int p, int q, int i, int what) {
            if (!is(p) || !is(q) || i < 0 || i >= rows.get(p).get(q).size() || what < 0 || what > 2) {
                return -1;
            }
            return rows.get(p).get(q).get(i)[what];
        }

        boolean quiet() {
            return number(active) == 0 && underWay(1) == 0;
        }

        int count(int what) {
            int deads = 0;
            for (int one : dead) {
                deads += one;
            }
            return what < 0 || what > 9 ? -1 : new int[] {
                n, treeTold ? 1 : 0, ringTold ? 1 : 0, round, sum, tokenBlack ? 1 : 0,
                underWay(0), underWay(1), received, deads
            }[what];
        }
    }

    private static int wrong = 0;
    private static int runNumber = 0;

    private static void due(String call, int got, int want) {
        if (got != want && wrong++ < 20) {
            System.out.println("run " + runNumber + ": " + call + " answered " + got + ", due is " + want);
        }
    }

    private static int oneIf(boolean holds) {
        return holds ? 1 : 0;
    }

    /** A call that changes something, with its two numbers; true counts 1. */
    private record Call(String name, int a, int b) {
        int on(QuietWatch x) {
            return switch (name) {
                case "start" -> oneIf(x.start());
                case "send" -> oneIf(x.send(a, b));
                case "rest" -> oneIf(x.rest(a));
                case "ask" -> x.ask(a, b);
                case "answer" -> oneIf(x.answer(a, b));
                case "probe" -> x.probe(a);
                case "pass" -> x.pass(a);
                case "receive" -> x.receive(a, b);
                default -> x.run(a, b);
            };
        }

        int on(Model y) {
            return switch (name) {
                case "start" -> oneIf(y.start());
                case "send" -> oneIf(y.send(a, b));
                case "rest" -> oneIf(y.rest(a));
                case "ask" -> y.ask(a, b);
                case "answer" -> oneIf(y.answer(a, b));
                case "probe" -> y.probe(a);
                case "pass" -> y.pass(a);
                case "receive" -> y.receive(a, b);
                default -> y.run(a, b);
            };
        }
    }

    private static final String[] NAMES = {"send", "rest", "ask", "answer", "probe", "pass", "receive", "run"};

    /** How often each of these is drawn. */
    private static final int[][] MOODS = {
        {3, 2, 0, 0, 0, 2, 8, 0},
        {3, 4, 0, 0, 0, 1, 4, 1},
        {4, 1, 2, 4, 2, 1, 10, 0},
        {4, 0, 8, 1, 8, 0, 20, 0},
        {9, 0, 1, 1, 1, 1, 1, 0},
        {2, 1, 3, 1, 20, 1, 5, 1},
        {2, 2, 2, 2, 2, 2, 2, 2},
        {4, 4, 1, 4, 1, 1, 12, 1},
    };

    private final Random random;
    private final int[] mood;
    private final int processes;
    private final QuietWatch x;
    private final Model y;
    private final List<Call> made = new ArrayList<>();
    private QuietWatch alike;
    private int questionsLeft;

    private ModelTest(int seed) {
        random = new Random(seed);
        mood = MOODS[seed % MOODS.length];
        processes = seed % 5 == 0 ? 2 : random.nextInt(14) - 1;
        x = new QuietWatch(processes);
        y = new Model(processes);
    }

    private int process() {
        return random.nextInt(40) == 0 ? random.nextInt(80) - 40 : random.nextInt(y.n);
    }

    private String name() {
        int all = 0;
        for (int often : mood) {
            all += often;
        }
        int left = random.nextInt(all);
        int call = 0;
        while (left >= mood[call]) {
            left -= mood[call++];
        }
        return NAMES[call];
    }

    /** Most rows are empty: looks for one that isn't, so that most receives do something. */
    private Call someReceive() {
        int p = process();
        int q = process();
        for (int i = 0; i < 30 && y.message(p, q, 0, 0) < 0; i++) {
            p = process();
            q = process();
        }
        return new Call("receive", p, q);
    }

    private Call someCall() {
        int p = process();
        int number = random.nextInt();
        String name = name();
        return switch (name) {
            case "ask" -> new Call(name, p, random.nextInt(3) == 0 ? number : 1 << (number & 15));
            case "pass" -> new Call(name, y.holder >= 0 && random.nextBoolean() ? y.holder : p, 0);
            case "receive" -> someReceive();
            case "run" -> new Call(name, random.nextInt(20) == 0 ? random.nextInt(2200) - 100 : random.nextInt(60), number);
            default -> new Call(name, p, process());
        };
    }

    private void make(Call call) {
        due(call.toString(), call.on(x), call.on(y));
        made.add(call);
    }

    /** An object on which the same calls were made, and which may be asked once more. */
    private QuietWatch alike() {
        if (questionsLeft == 0) {
            alike = new QuietWatch(processes);
            for (Call call : made) {
                call.on(alike);
            }
            questionsLeft = LAST_CALL - made.size();
        }
        questionsLeft--;
        return alike;
    }

    private void compareAll() {
        questionsLeft = 0;
        for (int p = 0; p < y.n; p++) {
            for (int what = 0; what < 12; what++) {
                due("told(" + p + ", " + what + ")", alike().told(p, what), y.told(p, what));
            }
            for (int q = 0; q < y.n; q++) {
                due("waits(" + p + ", " + q + ")", oneIf(alike().waits(p, q)), oneIf(y.waits(p, q)));
                compareRow(p, q);
            }
        }
        for (int what = 0; what < 10; what++) {
            due("count(" + what + ")", alike().count(what), y.count(what));
        }
        due("quiet()", oneIf(alike().quiet()), oneIf(y.quiet()));
        due("wrong()", alike().wrong(), y.wrong);
        due("falsely()", alike().falsely(), y.falsely);
    }

    private void compareRow(int p, int q) {
        int size = y.rows.get(p).get(q).size();
        for (int i = 0; i <= size; i++) {
            for (int what = 0; what < 3; what++) {
                String call = "message(" + p + ", " + q + ", " + i + ", " + what + ")";
                due(call, alike().message(p, q, i, what), y.message(p, q, i, what));
            }
        }
    }

    private void go() {
        for (int call = 1; call <= DRAWN_CALLS; call++) {
            make(call == 5 ? new Call("start", 0, 0) : someCall());
            if (call % CALLS_TILL_ALL_IS_COMPARED == 0) {
                compareAll();
            }
        }
    }

    /** All wait for all, and many probings are begun: the rows grow long, and are worked off. */
    private static void longRows(int probings, int runs) {
        QuietWatch x = new QuietWatch(10);
        Model y = new Model(10);
        List<Call> calls = new ArrayList<>();
        calls.add(new Call("start", 0, 0));
        for (int q = 1; q < 10; q++) {
            calls.add(new Call("send", 0, q));
            calls.add(new Call("receive", 0, q));
        }
        for (int p = 0; p < 10; p++) {
            calls.add(new Call("ask", p, -1));
        }
        calls.add(new Call("run", 2000, 1));
        for (int i = 0; i < probings; i++) {
            calls.add(new Call("probe", i % 10, 0));
        }
        for (int i = 0; i < runs; i++) {
            calls.add(new Call("run", 2000, i));
        }
        for (Call call : calls) {
            due(call.toString(), call.on(x), call.on(y));
        }
        due("count(6)", x.count(6), y.count(6));
        due("count(9)", x.count(9), y.count(9));
        due("falsely()", x.falsely(), 0);
    }

    public static void main(String[] args) {
        int treeEnds = 0;
        int ringEnds = 0;
        int deads = 0;
        for (runNumber = 0; runNumber < 400; runNumber++) {
            ModelTest test = new ModelTest(runNumber);
            test.go();
            treeEnds += test.y.count(1);
            ringEnds += test.y.count(2);
            deads += test.y.count(9);
        }
        longRows(300, 170);
        longRows(450, 25);
        System.out.println(treeEnds + " ends by the tree, " + ringEnds + " by the ring, " + deads + " told to be dead");
        System.out.println(wrong == 0 ? "all answers are as due" : wrong + " answers are not as due");
        if (wrong != 0 || treeEnds == 0 || ringEnds == 0 || deads == 0) {
            System.exit(1);
        }
    }
}
