import java.util.ArrayList;
import java.util.List;
import java.util.Random;

/**
 * 'What is refused changes nothing': a refused call is made on one of two objects that are alike, and
 * behind it all that can be asked, and all that later calls answer, must be the same on both. The same
 * holds of calls that only ask.
 */
public final class RefusedTest {
    private static final int NONE = -1;
    private static final int LOWEST = Integer.MIN_VALUE;
    private static final int HIGHEST = Integer.MAX_VALUE;
    private static final int LAST_CALL = 512;
    private static final int LATER_CALLS = 150;

    /** An object with its calls counted, for nothing is promised behind the last one; true counts 1. */
    private static final class Watch {
        private final QuietWatch of;
        private int calls;

        Watch(int processes) {
            of = new QuietWatch(processes);
        }

        private QuietWatch next() {
            if (calls == LAST_CALL) {
                throw new IllegalStateException("the test itself makes too many calls");
            }
            calls++;
            return of;
        }

        int start() {
            return next().start() ? 1 : 0;
        }

        int send(int p, int q) {
            return next().send(p, q) ? 1 : 0;
        }

        int rest(int p) {
            return next().rest(p) ? 1 : 0;
        }

        int ask(int p, int mask) {
            return next().ask(p, mask);
        }

        int answer(int q, int p) {
            return next().answer(q, p) ? 1 : 0;
        }

        int probe(int p) {
            return next().probe(p);
        }

        int pass(int p) {
            return next().pass(p);
        }

        int receive(int p, int q) {
            return next().receive(p, q);
        }

        int run(int n, int seed) {
            return next().run(n, seed);
        }

        int told(int p, int what) {
            return next().told(p, what);
        }

        int waits(int p, int q) {
            return next().waits(p, q) ? 1 : 0;
        }

        int message(int p, int q, int i, int what) {
            return next().message(p, q, i, what);
        }

        int quiet() {
            return next().quiet() ? 1 : 0;
        }

        int wrong() {
            return next().wrong();
        }

        int falsely() {
            return next().falsely();
        }

        int count(int what) {
            return next().count(what);
        }
    }

    private interface Call {
        int on(Watch x);
    }

    private interface Calls {
        void on(Watch x);
    }

    /** Calls that lead a new object of so many processes to some state. */
    private record Scene(String name, int processes, Calls calls) {
        Watch made() {
            Watch x = new Watch(processes);
            calls.on(x);
            return x;
        }

        Scene and(Call call) {
            return new Scene(name, processes, x -> {
                calls.on(x);
                call.on(x);
            });
        }
    }

    /** Asks all that can be asked of a scene, of as many objects as that takes. */
    private static final class Reader {
        private final Scene scene;
        private final List<String> answers = new ArrayList<>();
        private Watch x;

        Reader(Scene scene) {
            this.scene = scene;
            this.x = scene.made();
        }

        private int ask(String question, Call call) {
            if (x.calls == LAST_CALL) {
                x = scene.made();
            }
            int answer = call.on(x);
            answers.add(question + " is " + answer);
            return answer;
        }

        private void askRow(int p, int q) {
            int kind = 0;
            for (int i = 0; kind != NONE; i++) {
                int at = i;
                String question = "message(" + p + ", " + q + ", " + i + ", ";
                kind = ask(question + "0)", y -> y.message(p, q, at, 0));
                ask(question + "1)", y -> y.message(p, q, at, 1));
                ask(question + "2)", y -> y.message(p, q, at, 2));
            }
        }

        List<String> all() {
            for (int p = 0; p < scene.processes; p++) {
                int of = p;
                for (int w = 0; w < 12; w++) {
                    int what = w;
                    ask("told(" + of + ", " + what + ")", y -> y.told(of, what));
                }
                for (int q = 0; q < scene.processes; q++) {
                    int other = q;
                    ask("waits(" + of + ", " + other + ")", y -> y.waits(of, other));
                    askRow(of, other);
                }
            }
            for (int w = 0; w < 10; w++) {
                int what = w;
                ask("count(" + what + ")", y -> y.count(what));
            }
            ask("quiet()", Watch::quiet);
            ask("wrong()", Watch::wrong);
            ask("falsely()", Watch::falsely);
            return answers;
        }
    }

    /** What drawn calls answer behind a scene: a change that cannot be asked for shows there. */
    private static List<String> later(Scene scene, int seed) {
        List<String> answers = new ArrayList<>();
        Random random = new Random(seed);
        Watch x = scene.made();
        for (int i = 0; i < LATER_CALLS; i++) {
            int p = random.nextInt(scene.processes);
            int q = random.nextInt(scene.processes);
            int number = random.nextInt();
            answers.add("later call " + i + " answers " + drawn(x, random.nextInt(16), p, q, number));
        }
        return answers;
    }

    /** The same, of calls that make all wait for all, and receive what comes. */
    private static List<String> laterWaits(Scene scene) {
        List<String> answers = new ArrayList<>();
        Watch x = scene.made();
        askAll(x, scene.processes, answers);
        for (int i = 0; i < 3; i++) {
            receiveAll(x, scene.processes, answers);
        }
        return answers;
    }

    /** The same, with probings of all who wait: who is DEAD then, and was it told falsely? */
    private static List<String> laterProbes(Scene scene) {
        List<String> answers = new ArrayList<>();
        Watch x = scene.made();
        askAll(x, scene.processes, answers);
        receiveAll(x, scene.processes, answers);
        for (int p = 0; p < scene.processes; p++) {
            answers.add("later probe(" + p + ") is " + x.probe(p));
        }
        for (int i = 0; i < 3; i++) {
            receiveAll(x, scene.processes, answers);
        }
        answers.add("later count(9) is " + x.count(9));
        answers.add("later falsely() is " + x.falsely());
        return answers;
    }

    private static void askAll(Watch x, int processes, List<String> answers) {
        for (int p = 0; p < processes; p++) {
            answers.add("later ask(" + p + ", -1) is " + x.ask(p, -1));
        }
    }

    private static void receiveAll(Watch x, int processes, List<String> answers) {
        for (int p = 0; p < processes; p++) {
            for (int q = 0; q < processes; q++) {
                answers.add("later receive(" + p + ", " + q + ") is " + x.receive(p, q));
            }
        }
    }

    private static int drawn(Watch x, int call, int p, int q, int number) {
        switch (call) {
            case 0: return x.start();
            case 1: return x.send(p, q);
            case 2: return x.rest(p);
            case 3: return x.ask(p, number);
            case 4: return x.ask(p, 1 << q);
            case 5: return x.answer(q, p);
            case 6: return x.probe(p);
            case 7: return x.pass(p);
            case 8: return x.run(40, number);
            case 9: return x.told(p, (number & HIGHEST) % 12);
            case 10: return x.count((number & HIGHEST) % 10);
            default: return x.receive(p, q);
        }
    }

    private static int wrong = 0;
    private static int refusals = 0;

    private static void complain(String what) {
        wrong++;
        if (wrong <= 40) {
            System.out.println(what);
        }
    }

    private static void compare(String call, List<String> without, List<String> with) {
        for (int i = 0; i < Math.min(without.size(), with.size()); i++) {
            if (!without.get(i).equals(with.get(i))) {
                complain(call + " was refused, but then " + with.get(i) + "; without it: " + without.get(i));
                return;
            }
        }
        if (without.size() != with.size()) {
            complain(call + " was refused, but then there are other messages");
        }
    }

    /** What there is to compare with, read once for each scene. */
    private static final class Before {
        private final Scene scene;
        private final List<String> all;
        private final List<String> laterOne;
        private final List<String> laterTwo;
        private final List<String> laterWaits;
        private final List<String> laterProbes;

        Before(Scene scene) {
            this.scene = scene;
            this.all = new Reader(scene).all();
            this.laterOne = later(scene, 1);
            this.laterTwo = later(scene, 2);
            this.laterWaits = laterWaits(scene);
            this.laterProbes = laterProbes(scene);
        }

        void dueUnchanged(String name, Call call) {
            refusals++;
            Scene changed = scene.and(call);
            String label = scene.name + ": " + name;
            compare(label, all, new Reader(changed).all());
            compare(label, laterOne, later(changed, 1));
            compare(label, laterTwo, later(changed, 2));
            compare(label, laterWaits, laterWaits(changed));
            compare(label, laterProbes, laterProbes(changed));
        }

        void refused(String name, Call call, int want) {
            int got = call.on(scene.made());
            if (got != want) {
                complain(scene.name + ": " + name + " answered " + got + ", due is " + want);
            }
            dueUnchanged(name, call);
        }

        /** Any call that is refused here, and any that only asks. */
        void refusedIfSo(String name, Call call) {
            if (call.on(scene.made()) <= 0) {
                dueUnchanged(name, call);
            }
        }
    }

    private static void allActive(Watch x, int processes) {
        x.start();
        for (int q = 1; q < processes; q++) {
            x.send(0, q);
            x.receive(0, q);
        }
    }

    private static void ask(Watch x, int p, int q) {
        x.ask(p, 1 << q);
        x.receive(p, q);
    }

    /** A MESSAGE of each KIND is under way, and 1 was told to be DEAD. */
    private static void ofEachKind(Watch x) {
        allActive(x, 4);
        x.send(0, 1);
        x.receive(0, 1);
        x.send(0, 3);
        x.rest(0);
        x.pass(0);
        x.ask(1, 12);
        x.receive(1, 2);
        ask(x, 3, 2);
        x.answer(2, 3);
        ask(x, 2, 1);
        x.probe(1);
        x.receive(1, 2);
        x.receive(2, 1);
        x.probe(2);
    }

    /** The TREE told the end, and the TOKEN is on its way to 1, BLACK and with a SUM of -1. */
    private static void behindTheTree(Watch x) {
        allActive(x, 3);
        x.rest(1);
        x.rest(2);
        x.receive(1, 0);
        x.receive(2, 0);
        x.rest(0);
        x.pass(0);
        x.receive(0, 2);
        x.pass(2);
    }

    /** The ROOT is BLACK and PASSIVE, and has the TOKEN behind a round. */
    private static void rootCanPass(Watch x) {
        x.start();
        x.send(0, 1);
        x.rest(0);
        round(x);
        x.receive(0, 1);
        x.send(1, 0);
        x.receive(1, 0);
        x.rest(0);
    }

    private static void round(Watch x) {
        x.pass(0);
        x.receive(0, 2);
        x.pass(2);
        x.receive(2, 1);
        x.pass(1);
        x.receive(1, 0);
    }

    /** The RING told the end, and the ACK that lets the TREE tell it is under way. */
    private static void behindTheRing(Watch x) {
        x.start();
        x.send(0, 2);
        x.receive(0, 2);
        x.rest(2);
        x.rest(0);
        round(x);
        round(x);
        x.pass(0);
    }

    /** 0 waits for 1 and 2, both of these for 3, and 3 for 4; a PROBE came by one of the two ways. */
    private static void halfProbed(Watch x) {
        allActive(x, 5);
        x.ask(0, 6);
        x.receive(0, 1);
        x.receive(0, 2);
        ask(x, 1, 3);
        ask(x, 2, 3);
        ask(x, 3, 4);
        x.probe(0);
        x.receive(0, 1);
        x.receive(0, 2);
        x.receive(1, 3);
    }

    /** 3 waits no more: but a PROBE that comes by the other way is not of a greater number. */
    private static void halfProbedAndFreed(Watch x) {
        halfProbed(x);
        x.answer(4, 3);
        x.receive(4, 3);
    }

    private static void twentyWorks(Watch x) {
        allActive(x, 2);
        for (int i = 0; i < 20; i++) {
            x.send(0, 1);
            x.send(1, 0);
        }
    }

    private static void owedAHundred(Watch x) {
        x.start();
        for (int i = 0; i < 100; i++) {
            x.send(0, 1 + i / 20);
        }
        x.receive(0, 1);
        x.receive(0, 1);
    }

    private static void fiftyProbings(Watch x) {
        allActive(x, 3);
        ask(x, 0, 1);
        ask(x, 1, 2);
        ask(x, 2, 1);
        for (int i = 0; i < 50; i++) {
            x.probe(0);
        }
        x.receive(0, 1);
    }

    private static final Scene NEW = new Scene("a new one", 3, x -> { });
    private static final Scene STARTED = new Scene("started", 3, Watch::start);
    private static final Scene ALL_ACTIVE = new Scene("all are ACTIVE", 10, x -> allActive(x, 10));
    private static final Scene EACH_KIND = new Scene("each KIND is under way", 4, RefusedTest::ofEachKind);
    private static final Scene BEHIND_TREE = new Scene("behind the end by the TREE", 3, RefusedTest::behindTheTree);
    private static final Scene BEHIND_RING = new Scene("behind the end by the RING", 3, RefusedTest::behindTheRing);
    private static final Scene HALF_PROBED = new Scene("a PROBE half its way", 5, RefusedTest::halfProbed);
    private static final Scene FREED = new Scene("a PROBE half its way, 3 is free", 5, RefusedTest::halfProbedAndFreed);
    private static final Scene CAN_PASS = new Scene("the ROOT can pass", 3, RefusedTest::rootCanPass);
    private static final Scene TWENTY = new Scene("twenty WORKS in both ROWS", 2, RefusedTest::twentyWorks);
    private static final Scene HUNDRED = new Scene("OWED a hundred", 7, RefusedTest::owedAHundred);
    private static final Scene FIFTY = new Scene("fifty probings", 3, RefusedTest::fiftyProbings);
    private static final Scene[] SCENES = {
        NEW, STARTED, ALL_ACTIVE, EACH_KIND, BEHIND_TREE, BEHIND_RING,
        HALF_PROBED, FREED, CAN_PASS, TWENTY, HUNDRED, FIFTY,
    };

    private static int[] noneOf(int processes) {
        return new int[] {-1, -32, processes, 31, 32, 33, 65536, LOWEST, HIGHEST};
    }

    private static void start() {
        new Before(STARTED).refused("start()", Watch::start, 0);
        new Before(EACH_KIND).refused("start(), the ROOT being PASSIVE", Watch::start, 0);
        new Before(FIFTY).refused("start(), the ROOT being BLOCKED", Watch::start, 0);
        new Before(BEHIND_TREE).refused("start()", Watch::start, 0);
        new Before(BEHIND_RING).refused("start()", Watch::start, 0);
    }

    private static void send() {
        new Before(NEW).refused("send(0, 1)", x -> x.send(0, 1), 0);
        new Before(STARTED).refused("send(1, 0) of a PASSIVE one", x -> x.send(1, 0), 0);
        new Before(STARTED).refused("send(0, 0) to itself", x -> x.send(0, 0), 0);
        new Before(EACH_KIND).refused("send(1, 2) of a BLOCKED one", x -> x.send(1, 2), 0);
        new Before(TWENTY).refused("send(0, 1) to a full ROW", x -> x.send(0, 1), 0);
        new Before(TWENTY).refused("send(1, 0) to a full ROW", x -> x.send(1, 0), 0);
        new Before(HUNDRED).refused("send(0, 6) to an empty ROW", x -> x.send(0, 6), 0);
        new Before(HUNDRED).refused("send(0, 2) to a full ROW", x -> x.send(0, 2), 0);
        Before active = new Before(ALL_ACTIVE);
        for (int none : noneOf(10)) {
            active.refused("send(0, " + none + ")", x -> x.send(0, none), 0);
            active.refused("send(" + none + ", 0)", x -> x.send(none, 0), 0);
        }
    }

    private static void rest() {
        new Before(NEW).refused("rest(0)", x -> x.rest(0), 0);
        new Before(STARTED).refused("rest(1) of a PASSIVE one", x -> x.rest(1), 0);
        new Before(EACH_KIND).refused("rest(0) of a PASSIVE one in the tree", x -> x.rest(0), 0);
        new Before(EACH_KIND).refused("rest(1) of a BLOCKED one", x -> x.rest(1), 0);
        new Before(BEHIND_RING).refused("rest(0)", x -> x.rest(0), 0);
        Before active = new Before(ALL_ACTIVE);
        for (int none : noneOf(10)) {
            active.refused("rest(" + none + ")", x -> x.rest(none), 0);
        }
    }

    private static void ask() {
        new Before(NEW).refused("ask(0, 6)", x -> x.ask(0, 6), NONE);
        new Before(STARTED).refused("ask(1, 1) of a PASSIVE one", x -> x.ask(1, 1), NONE);
        new Before(EACH_KIND).refused("ask(2, 9) of a BLOCKED one", x -> x.ask(2, 9), NONE);
        new Before(EACH_KIND).refused("ask(3, 4) of a BLOCKED one, again", x -> x.ask(3, 4), NONE);
        Before active = new Before(ALL_ACTIVE);
        for (int none : noneOf(10)) {
            active.refused("ask(" + none + ", -1)", x -> x.ask(none, -1), NONE);
        }
        active.refused("ask(0, 0)", x -> x.ask(0, 0), NONE);
        new Before(FREED).refused("ask(3, 8)", x -> x.ask(3, 8), NONE);
        for (int p = 0; p < 10; p++) {
            int of = p;
            active.refused("ask(" + p + ", its own bit)", x -> x.ask(of, 1 << of), NONE);
            active.refused("ask(" + p + ", those of none)", x -> x.ask(of, -1 << 10), NONE);
            active.refused("ask(" + p + ", both)", x -> x.ask(of, -1 << 10 | 1 << of), NONE);
        }
    }

    private static void answer() {
        new Before(NEW).refused("answer(1, 0)", x -> x.answer(1, 0), 0);
        new Before(EACH_KIND).refused("answer(3, 1) of a REQUEST under way", x -> x.answer(3, 1), 0);
        new Before(EACH_KIND).refused("answer(2, 3), done before", x -> x.answer(2, 3), 0);
        new Before(EACH_KIND).refused("answer(2, 1) of a BLOCKED one", x -> x.answer(2, 1), 0);
        new Before(HALF_PROBED).refused("answer(4, 0), where only 3's is PENDING", x -> x.answer(4, 0), 0);
        new Before(HALF_PROBED).refused("answer(4, 4)", x -> x.answer(4, 4), 0);
        Before probed = new Before(HALF_PROBED);
        for (int none : noneOf(5)) {
            probed.refused("answer(4, " + none + ")", x -> x.answer(4, none), 0);
            probed.refused("answer(" + none + ", 3)", x -> x.answer(none, 3), 0);
        }
    }

    private static void probe() {
        new Before(NEW).refused("probe(0)", x -> x.probe(0), NONE);
        new Before(STARTED).refused("probe(0) of an ACTIVE one", x -> x.probe(0), NONE);
        new Before(EACH_KIND).refused("probe(0) of a PASSIVE one", x -> x.probe(0), NONE);
        new Before(FIFTY).refused("probe(0) behind fifty", x -> x.probe(0), NONE);
        new Before(FREED).refused("probe(3) of an ACTIVE one", x -> x.probe(3), NONE);
        Before probed = new Before(HALF_PROBED);
        for (int none : noneOf(5)) {
            probed.refused("probe(" + none + ")", x -> x.probe(none), NONE);
        }
    }

    private static void pass() {
        new Before(NEW).refused("pass(0)", x -> x.pass(0), NONE);
        new Before(STARTED).refused("pass(0) of an ACTIVE one", x -> x.pass(0), NONE);
        new Before(STARTED).refused("pass(2) of one that hasn't it", x -> x.pass(2), NONE);
        new Before(FIFTY).refused("pass(0) of a BLOCKED one", x -> x.pass(0), NONE);
        new Before(BEHIND_TREE).refused("pass(0) with the TOKEN under way", x -> x.pass(0), NONE);
        new Before(BEHIND_TREE).refused("pass(1) with the TOKEN under way", x -> x.pass(1), NONE);
        new Before(BEHIND_TREE).refused("pass(2) of one that had it", x -> x.pass(2), NONE);
        new Before(BEHIND_RING).refused("pass(0) behind the end", x -> x.pass(0), NONE);
        Before underWay = new Before(BEHIND_TREE);
        for (int none : noneOf(3)) {
            underWay.refused("pass(" + none + ")", x -> x.pass(none), NONE);
        }
    }

    private static void receive() {
        new Before(NEW).refused("receive(0, 1)", x -> x.receive(0, 1), NONE);
        new Before(EACH_KIND).refused("receive(0, 1) of an emptied ROW", x -> x.receive(0, 1), NONE);
        Before kinds = new Before(EACH_KIND);
        for (int p = 0; p < 4; p++) {
            int of = p;
            kinds.refused("receive(" + p + ", " + p + ")", x -> x.receive(of, of), NONE);
        }
        for (int none : noneOf(4)) {
            kinds.refused("receive(0, " + none + ")", x -> x.receive(0, none), NONE);
            kinds.refused("receive(" + none + ", 3)", x -> x.receive(none, 3), NONE);
        }
    }

    private static void run() {
        for (Scene scene : new Scene[] {EACH_KIND, CAN_PASS}) {
            Before before = new Before(scene);
            for (int n : new int[] {-1, -2000, LOWEST, 2001, 4000, HIGHEST}) {
                before.refused("run(" + n + ", 0)", x -> x.run(n, 0), NONE);
            }
            before.refused("run(0, 0)", x -> x.run(0, 0), 0);
        }
        new Before(NEW).refused("run(2000, 1), where nothing can be done", x -> x.run(2000, 1), 0);
    }

    private static void questionsAboutNone() {
        Before kinds = new Before(EACH_KIND);
        for (int none : noneOf(12)) {
            kinds.refused("told(" + none + ", 0)", x -> x.told(none, 0), NONE);
            kinds.refused("told(1, " + none + ")", x -> x.told(1, none), NONE);
            kinds.refused("waits(" + none + ", 1)", x -> x.waits(none, 1), 0);
            kinds.refused("waits(1, " + none + ")", x -> x.waits(1, none), 0);
            kinds.refused("message(" + none + ", 3, 0, 0)", x -> x.message(none, 3, 0, 0), NONE);
            kinds.refused("message(0, " + none + ", 0, 0)", x -> x.message(0, none, 0, 0), NONE);
            kinds.refused("message(0, 3, " + none + ", 0)", x -> x.message(0, 3, none, 0), NONE);
            kinds.refused("message(0, 3, 0, " + none + ")", x -> x.message(0, 3, 0, none), NONE);
            kinds.refused("count(" + none + ")", x -> x.count(none), NONE);
        }
    }

    /** Questions answer something, and change nothing either. */
    private static void questions(Before scene) {
        scene.dueUnchanged("quiet()", Watch::quiet);
        scene.dueUnchanged("wrong()", Watch::wrong);
        scene.dueUnchanged("falsely()", Watch::falsely);
        for (int w = 0; w < 12; w++) {
            int what = w;
            scene.dueUnchanged("told(0, " + what + ")", x -> x.told(0, what));
            scene.dueUnchanged("told(1, " + what + ")", x -> x.told(1, what));
            scene.dueUnchanged("count(" + what + ")", x -> x.count(what));
        }
        scene.dueUnchanged("waits(0, 1)", x -> x.waits(0, 1));
        scene.dueUnchanged("message(0, 1, 0, 0)", x -> x.message(0, 1, 0, 0));
    }

    /** In each scene each call with each process, and with those next to them. */
    private static void everyCall(Before scene) {
        int n = scene.scene.processes;
        scene.refusedIfSo("start()", Watch::start);
        for (int p = -1; p <= n; p++) {
            int of = p;
            scene.refusedIfSo("rest(" + p + ")", x -> x.rest(of));
            scene.refusedIfSo("probe(" + p + ")", x -> x.probe(of));
            scene.refusedIfSo("pass(" + p + ")", x -> x.pass(of));
            scene.refusedIfSo("ask(" + p + ", -1)", x -> x.ask(of, -1));
            for (int q = -1; q <= n; q++) {
                int other = q;
                scene.refusedIfSo("send(" + p + ", " + q + ")", x -> x.send(of, other));
                scene.refusedIfSo("answer(" + p + ", " + q + ")", x -> x.answer(of, other));
                scene.refusedIfSo("receive(" + p + ", " + q + ")", x -> x.receive(of, other));
                scene.refusedIfSo("ask(" + p + ", bit " + q + ")", x -> x.ask(of, 1 << other));
            }
        }
    }

    public static void main(String[] args) {
        start();
        send();
        rest();
        ask();
        answer();
        probe();
        pass();
        receive();
        run();
        questionsAboutNone();
        for (Scene scene : SCENES) {
            Before before = new Before(scene);
            questions(before);
            everyCall(before);
        }
        System.out.println(refusals + " calls that must change nothing");
        System.out.println(wrong == 0 ? "all answers are as due" : wrong + " answers are not as due");
        if (wrong != 0) {
            System.exit(1);
        }
    }
}
