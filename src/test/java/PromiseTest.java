/** Each promise by hand: ordinary inputs, the edges that the document names, and wrong inputs. */
public final class PromiseTest {
    private static final int NONE = -1;
    private static final int WORK = 1;
    private static final int ACK = 2;
    private static final int TOKEN = 3;
    private static final int REQUEST = 4;
    private static final int REPLY = 5;
    private static final int PROBE = 6;
    private static final int[] NO_PROCESS = {-1, -32, 4, 10, 32, 36, Integer.MAX_VALUE, Integer.MIN_VALUE};

    private static int wrong = 0;

    private static void due(String call, int got, int want) {
        if (got != want) {
            wrong++;
            System.out.println(call + " answered " + got + ", due is " + want);
        }
    }

    private static void due(String call, boolean got, boolean want) {
        due(call, got ? 1 : 0, want ? 1 : 0);
    }

    private static void dueTold(String when, QuietWatch x, int p, int... wants) {
        for (int what = 0; what < wants.length; what++) {
            due(when + ": told(" + p + ", " + what + ")", x.told(p, what), wants[what]);
        }
    }

    private static void dueCounts(String when, QuietWatch x, int... wants) {
        for (int what = 0; what < wants.length; what++) {
            due(when + ": count(" + what + ")", x.count(what), wants[what]);
        }
    }

    private static QuietWatch started(int processes) {
        QuietWatch x = new QuietWatch(processes);
        x.start();
        return x;
    }

    /** All of them ACTIVE, and no MESSAGE under way. */
    private static QuietWatch allActive(int processes) {
        QuietWatch x = started(processes);
        for (int q = 1; q < processes; q++) {
            x.send(0, q);
            x.receive(0, q);
        }
        return x;
    }

    private static void ask(QuietWatch x, int p, int q) {
        due("ask(" + p + ", only " + q + ")", x.ask(p, 1 << q), 1);
        due("receive(" + p + ", " + q + ") of a REQUEST", x.receive(p, q), REQUEST);
    }

    private static void aNewObject() {
        int[] given = {Integer.MIN_VALUE, -1, 0, 1, 2, 3, 9, 10, 11, 1000, Integer.MAX_VALUE};
        int[] wants = {2, 2, 2, 2, 2, 3, 9, 10, 10, 10, 10};
        for (int i = 0; i < given.length; i++) {
            QuietWatch x = new QuietWatch(given[i]);
            dueCounts("new of " + given[i], x, wants[i], 0, 0, 0, 0, 0, 0, 0, 0, 0, NONE);
            due("wrong() of a new one", x.wrong(), 0);
            due("falsely() of a new one", x.falsely(), 0);
            due("quiet() of a new one", x.quiet(), true);
            for (int p = 0; p < wants[i]; p++) {
                dueTold("new", x, p, 0, 0, 0, NONE, 0, 0, 0, p == 0 ? 1 : 0, 0, 0, 0, 0, NONE);
            }
            due("told of one too many", x.told(wants[i], 0), NONE);
        }
    }

    private static void start() {
        QuietWatch x = new QuietWatch(3);
        due("start()", x.start(), true);
        dueTold("started", x, 0, 1, 0, 1, NONE, 0, 0, 0, 1, 0, 0, 0, 0);
        dueTold("started", x, 1, 0, 0, 0, NONE, 0, 0, 0, 0, 0, 0, 0, 0);
        due("start() again", x.start(), false);
        x.rest(0);
        due("start() behind the end", x.start(), false);
        due("told(0, 0) behind that", x.told(0, 0), 0);
        due("told(0, 2) behind that", x.told(0, 2), 0);
    }

    private static void send() {
        QuietWatch x = new QuietWatch(4);
        due("send before start", x.send(0, 1), false);
        x.start();
        due("send of a PASSIVE one", x.send(1, 0), false);
        due("send to itself", x.send(0, 0), false);
        for (int p : NO_PROCESS) {
            due("send(0, " + p + ")", x.send(0, p), false);
            due("send(" + p + ", 1)", x.send(p, 1), false);
        }
        due("messages behind what was refused", x.count(6), 0);
        due("OWED behind what was refused", x.told(0, 4), 0);
        due("send(0, 3)", x.send(0, 3), true);
        dueTold("sent", x, 0, 1, 0, 1, NONE, 1, 1, 0);
        due("message(0, 3, 0, 0)", x.message(0, 3, 0, 0), WORK);
        due("message(3, 0, 0, 0)", x.message(3, 0, 0, 0), NONE);
        x.ask(0, 2);
        due("send of a BLOCKED one", x.send(0, 2), false);
    }

    private static void sendToAFullRow() {
        QuietWatch x = started(10);
        for (int i = 0; i < 20; i++) {
            due("send " + i + " in a ROW", x.send(0, 1), true);
        }
        due("send 20 in a ROW", x.send(0, 1), false);
        x.receive(0, 1);
        due("send behind a receive", x.send(0, 1), true);
        due("send to a full ROW again", x.send(0, 1), false);
        due("COUNT of the sender", x.told(0, 5), 21);
        due("OWED of the sender", x.told(0, 4), 21);
    }

    private static void sendBesideOtherKinds() {
        QuietWatch x = allActive(2);
        for (int i = 0; i < 3; i++) {
            x.send(0, 1);
            x.receive(0, 1);
        }
        due("ACKS in the ROW", x.count(6), 3);
        for (int i = 0; i < 20; i++) {
            due("send " + i + " behind ACKS", x.send(1, 0), true);
        }
        due("send 20 behind ACKS", x.send(1, 0), false);
        x.receive(1, 0);
        due("send behind an ACK received", x.send(1, 0), false);
    }

    private static void sendWhenOwedAHundred() {
        QuietWatch x = started(10);
        for (int i = 0; i < 100; i++) {
            due("send " + i + " of a hundred", x.send(0, 1 + i / 20), true);
        }
        due("told(0, 4) of a hundred", x.told(0, 4), 100);
        due("send when OWED a hundred", x.send(0, 9), false);
        x.receive(0, 1);
        due("send behind a WORK received", x.send(0, 9), false);
        x.receive(0, 1);
        x.receive(1, 0);
        due("send behind an ACK received", x.send(0, 9), true);
        due("send when OWED a hundred again", x.send(0, 9), false);
    }

    private static void rest() {
        QuietWatch x = new QuietWatch(4);
        due("rest before start", x.rest(0), false);
        x.start();
        for (int p : NO_PROCESS) {
            due("rest(" + p + ")", x.rest(p), false);
        }
        due("rest of a PASSIVE one", x.rest(1), false);
        x.send(0, 1);
        due("rest(0)", x.rest(0), true);
        due("rest(0) again", x.rest(0), false);
        dueTold("rested, but OWED", x, 0, 0, 0, 1, NONE, 1, 1);
        x.receive(0, 1);
        x.ask(1, 1);
        due("rest of a BLOCKED one", x.rest(1), false);
        due("it is ACTIVE still", x.told(1, 0), 1);
        QuietWatch y = started(2);
        due("rest that ends all", y.rest(0), true);
        due("the TREE told it", y.count(1), 1);
        due("told(0, 2)", y.told(0, 2), 0);
    }

    private static void theTree() {
        QuietWatch x = allActive(3);
        due("PARENT of 1", x.told(1, 3), 0);
        due("IN THE TREE", x.told(1, 2), 1);
        x.send(1, 0);
        due("WORK for the ROOT", x.receive(1, 0), WORK);
        due("ACK of the ROOT", x.message(0, 1, 0, 0), ACK);
        due("PARENT of the ROOT", x.told(0, 3), NONE);
        x.rest(1);
        due("in the tree as long as OWED", x.told(1, 3), 0);
        due("receive(0, 1)", x.receive(0, 1), ACK);
        dueTold("left the tree", x, 1, 0, 0, 0, NONE, 0, 0, 1);
        due("its ACK goes to the PARENT", x.message(1, 0, 0, 0), ACK);
        x.send(2, 1);
        x.receive(2, 1);
        dueTold("another PARENT", x, 1, 1, 0, 1, 2, 0, -1, 1);
        due("no ACK to that one", x.message(1, 2, 0, 0), NONE);
        x.rest(2);
        x.rest(0);
        x.rest(1);
        x.receive(1, 2);
        x.receive(1, 0);
        due("the end isn't told early", x.count(1), 0);
        due("quiet() before the end is told", x.quiet(), true);
        x.receive(2, 0);
        due("the end is told", x.count(1), 1);
        due("wrong()", x.wrong(), 0);
    }

    private static void workForAPassiveOneInTheTree() {
        QuietWatch x = allActive(3);
        x.send(1, 2);
        x.rest(1);
        x.send(0, 1);
        x.receive(0, 1);
        dueTold("ACTIVE again", x, 1, 1, 0, 1, 0, 1);
        due("an ACK at once", x.message(1, 0, 0, 0), ACK);
    }

    private static void ask() {
        QuietWatch x = new QuietWatch(4);
        due("ask before start", x.ask(0, 2), NONE);
        x.start();
        due("ask of a PASSIVE one", x.ask(1, 1), NONE);
        due("ask none", x.ask(0, 0), NONE);
        due("ask itself", x.ask(0, 1), NONE);
        due("ask those of none", x.ask(0, 0x7ffffff0), NONE);
        due("ask the sign bit", x.ask(0, Integer.MIN_VALUE), NONE);
        for (int p : NO_PROCESS) {
            due("ask(" + p + ", 15)", x.ask(p, 15), NONE);
        }
        due("told(0, 1) behind what was refused", x.told(0, 1), 0);
        due("ask(0, -6)", x.ask(0, -6), 2);
        dueTold("asked", x, 0, 1, 1, 1, NONE, 0, 0, 0, 1, 2, 0);
        due("message(0, 1, 0, 0)", x.message(0, 1, 0, 0), REQUEST);
        due("waits(0, 1)", x.waits(0, 1), true);
        due("waits(0, 2)", x.waits(0, 2), false);
        due("waits(0, 3)", x.waits(0, 3), true);
        due("message(0, 3, 0, 0)", x.message(0, 3, 0, 0), REQUEST);
        due("message(0, 2, 0, 0)", x.message(0, 2, 0, 0), NONE);
        due("ask of a BLOCKED one", x.ask(0, 4), NONE);
        due("messages", x.count(6), 2);
    }

    private static void answer() {
        QuietWatch x = allActive(4);
        x.ask(0, 6);
        due("answer before it is PENDING", x.answer(1, 0), false);
        x.receive(0, 1);
        x.receive(0, 2);
        due("PENDING at 1", x.told(1, 9), 1);
        for (int p : NO_PROCESS) {
            due("answer(1, " + p + ")", x.answer(1, p), false);
            due("answer(" + p + ", 0)", x.answer(p, 0), false);
        }
        due("answer(1, 1)", x.answer(1, 1), false);
        due("answer of one that wasn't asked", x.answer(3, 0), false);
        due("answer the wrong way", x.answer(0, 1), false);
        due("answer(1, 0)", x.answer(1, 0), true);
        due("answer(1, 0) again", x.answer(1, 0), false);
        due("PENDING at 1 behind it", x.told(1, 9), 0);
        due("message(1, 0, 0, 0)", x.message(1, 0, 0, 0), REPLY);
        due("it WAITS till the REPLY is received", x.waits(0, 1), true);
        due("receive(1, 0)", x.receive(1, 0), REPLY);
        dueTold("one REPLY", x, 0, 1, 1, 1, NONE, 3, 3, 0, 1, 1);
        x.rest(2);
        due("answer of a PASSIVE one", x.answer(2, 0), true);
        due("its ACK comes first", x.receive(2, 0), ACK);
        due("receive(2, 0)", x.receive(2, 0), REPLY);
        due("not BLOCKED any more", x.told(0, 1), 0);
        due("ask again", x.ask(0, 2), 1);
        x.receive(0, 1);
        x.ask(1, 8);
        due("answer of a BLOCKED one", x.answer(1, 0), false);
        due("PENDING as before", x.told(1, 9), 1);
    }

    private static void probe() {
        QuietWatch x = allActive(4);
        due("probe of one that isn't BLOCKED", x.probe(0), NONE);
        for (int p : NO_PROCESS) {
            due("probe(" + p + ")", x.probe(p), NONE);
        }
        x.ask(0, 10);
        for (int i = 1; i <= 50; i++) {
            due("probe(0)", x.probe(0), i);
        }
        due("probe(0) behind fifty", x.probe(0), NONE);
        due("told(0, 11)", x.told(0, 11), 50);
        due("messages", x.count(6), 102);
        due("no PROBE to 2", x.message(0, 2, 0, 0), NONE);
        for (int i = 1; i <= 50; i++) {
            due("kind of PROBE " + i, x.message(0, 3, i, 0), PROBE);
            due("who began PROBE " + i, x.message(0, 3, i, 1), 0);
            due("number of PROBE " + i, x.message(0, 3, i, 2), i);
        }
        x.ask(1, 1);
        due("another's numbers are its own", x.probe(1), 1);
    }

    private static void aProbeThatDoesNotMatter() {
        QuietWatch x = allActive(3);
        ask(x, 0, 1);
        x.probe(0);
        due("a PROBE for one that isn't BLOCKED", x.receive(0, 1), PROBE);
        due("is gone", x.count(6), 0);
        x.answer(1, 0);
        x.probe(0);
        x.ask(1, 4);
        due("a PROBE where no REQUEST is PENDING", x.receive(0, 1), PROBE);
        due("is not sent on", x.message(1, 2, 1, 0), NONE);
        due("nobody is DEAD", x.count(9), 0);
    }

    private static void aProbeThatMattersTheSecondTime() {
        QuietWatch x = allActive(4);
        x.ask(0, 6);
        x.receive(0, 1);
        x.receive(0, 2);
        ask(x, 2, 1);
        x.probe(0);
        due("a PROBE for one that isn't BLOCKED", x.receive(0, 1), PROBE);
        ask(x, 1, 3);
        x.receive(0, 2);
        due("the same PROBE by another way", x.receive(2, 1), PROBE);
        due("goes on, for the first didn't matter", x.message(1, 3, 0, 0), PROBE);
        due("who began it", x.message(1, 3, 0, 1), 0);
    }

    private static void aProbeSentOn() {
        QuietWatch x = allActive(4);
        ask(x, 0, 1);
        x.ask(1, 12);
        x.receive(1, 2);
        x.receive(1, 3);
        x.probe(0);
        x.probe(0);
        x.receive(0, 1);
        due("sent on to 2", x.message(1, 2, 0, 2), 1);
        due("sent on to 3", x.message(1, 3, 0, 2), 1);
        due("who began it", x.message(1, 3, 0, 1), 0);
        x.receive(0, 1);
        due("a greater number is sent on too", x.message(1, 2, 1, 2), 2);
    }

    private static void aProbeOfANumberThatMattered() {
        QuietWatch x = allActive(4);
        x.ask(0, 6);
        x.receive(0, 1);
        x.receive(0, 2);
        ask(x, 1, 3);
        ask(x, 2, 3);
        ask(x, 3, 0);
        x.probe(0);
        x.receive(0, 1);
        x.receive(0, 2);
        x.receive(1, 3);
        due("the first one goes on", x.count(6), 2);
        due("receive(2, 3)", x.receive(2, 3), PROBE);
        due("the second one doesn't", x.count(6), 1);
        x.receive(3, 0);
        dueTold("DEAD", x, 0, 1, 1, 1, NONE, 3, 3, 0, 1, 2, 1, 1, 1);
        due("falsely()", x.falsely(), 0);
        x.probe(0);
        x.receive(0, 2);
        x.receive(2, 3);
        x.receive(3, 0);
        due("DEAD again", x.told(0, 10), 2);
        due("count(9)", x.count(9), 2);
        due("none else is", x.told(3, 10), 0);
    }

    private static void aProbeThatComesBackTwice() {
        QuietWatch x = allActive(3);
        x.ask(0, 6);
        x.receive(0, 1);
        x.receive(0, 2);
        ask(x, 1, 0);
        ask(x, 2, 0);
        x.probe(0);
        x.receive(0, 1);
        x.receive(0, 2);
        x.receive(1, 0);
        x.receive(2, 0);
        due("DEAD by both ways", x.told(0, 10), 2);
        due("falsely()", x.falsely(), 0);
    }

    private static void pass() {
        QuietWatch x = new QuietWatch(3);
        due("pass before start", x.pass(0), NONE);
        x.start();
        for (int p : NO_PROCESS) {
            due("pass(" + p + ")", x.pass(p), NONE);
        }
        due("pass of an ACTIVE one", x.pass(0), NONE);
        due("pass of one that hasn't it", x.pass(1), NONE);
        x.rest(0);
        due("pass(0)", x.pass(0), 1);
        dueCounts("a round began", x, 3, 1, 0, 1, 0, 0, 1, 0, 0);
        due("the TOKEN goes to the highest", x.message(0, 2, 0, 0), TOKEN);
        due("the ROOT hasn't it", x.told(0, 7), 0);
        due("pass while it is under way", x.pass(0), NONE);
        due("pass before it is received", x.pass(2), NONE);
        x.receive(0, 2);
        due("who receives it has it", x.told(2, 7), 1);
        due("pass(2)", x.pass(2), 1);
        due("it goes to 1", x.receive(2, 1), TOKEN);
        due("pass(1)", x.pass(1), 1);
        due("it goes to 0", x.receive(1, 0), TOKEN);
        due("pass that tells the end", x.pass(0), 2);
        dueCounts("the end", x, 3, 1, 1, 1, 0, 0, 0, 0, 3);
        due("pass behind the end", x.pass(0), NONE);
        due("the ROOT has it still", x.told(0, 7), 1);
        due("wrong()", x.wrong(), 0);
    }

    private static void turn(QuietWatch x, int processes) {
        for (int p = processes - 1; p >= 0; p--) {
            x.receive((p + 1) % processes, p);
            if (p > 0) {
                x.pass(p);
            }
        }
    }

    private static void theRing() {
        QuietWatch x = started(3);
        x.send(0, 2);
        x.receive(0, 2);
        dueTold("WORK makes it BLACK", x, 2, 1, 0, 1, 0, 0, -1, 1);
        x.rest(2);
        x.rest(0);
        due("the ACK of 2 comes before the TOKEN", x.receive(2, 0), ACK);
        x.pass(0);
        turn(x, 3);
        dueCounts("one round", x, 3, 1, 0, 1, -1, 1, 0, 0);
        due("passing makes it WHITE", x.told(2, 6), 0);
        due("a BLACK TOKEN begins a round", x.pass(0), 1);
        dueCounts("another round", x, 3, 1, 0, 2, 0, 0, 1, 0);
        turn(x, 3);
        due("count(4)", x.count(4), -1);
        due("a WHITE one tells the end", x.pass(0), 2);
    }

    private static void theRingWithAnActiveOne() {
        QuietWatch x = started(3);
        x.send(0, 1);
        x.rest(0);
        x.pass(0);
        x.receive(0, 2);
        x.pass(2);
        x.receive(0, 1);
        due("an ACTIVE one receives it", x.receive(2, 1), TOKEN);
        due("it doesn't pass it", x.pass(1), NONE);
        x.rest(1);
        due("a PASSIVE one does", x.pass(1), 1);
    }

    private static void theRingBehindWork() {
        QuietWatch x = started(2);
        x.send(0, 1);
        x.receive(0, 1);
        x.send(1, 0);
        x.rest(1);
        x.rest(0);
        x.pass(0);
        x.receive(0, 1);
        due("BLACK 1 passes", x.pass(1), 1);
        due("it sent one and received one", x.count(4), 0);
        due("the TOKEN is BLACK", x.count(5), 1);
        due("the WORK is before the TOKEN", x.receive(1, 0), WORK);
        due("the ROOT is BLACK", x.told(0, 6), 1);
        x.rest(0);
        x.receive(1, 0);
        due("a round begins", x.pass(0), 1);
        due("the ROOT is WHITE", x.told(0, 6), 0);
    }

    private static void theRingWhileWorkIsUnderWay() {
        QuietWatch x = started(3);
        x.send(0, 1);
        x.rest(0);
        x.pass(0);
        x.receive(0, 2);
        x.pass(2);
        x.receive(2, 1);
        due("a PASSIVE one passes it past WORK", x.pass(1), 1);
        x.receive(1, 0);
        dueCounts("all WHITE, but WORK under way", x, 3, 0, 0, 1, 0, 0, 1, 1);
        due("it is no end", x.pass(0), 1);
        due("count(2)", x.count(2), 0);
        due("count(3)", x.count(3), 2);
    }

    private static void theRingWithABlackRoot() {
        QuietWatch x = started(3);
        x.send(0, 2);
        x.receive(0, 2);
        x.send(2, 0);
        x.rest(2);
        x.rest(0);
        x.pass(0);
        turn(x, 3);
        due("a BLACK TOKEN begins a round", x.pass(0), 1);
        due("the WORK of 2 comes meanwhile", x.receive(2, 0), WORK);
        x.rest(0);
        turn(x, 3);
        dueCounts("a WHITE TOKEN", x, 3, 0, 0, 2, 0, 0, 1, 0);
        dueTold("a BLACK ROOT with nothing to count", x, 0, 0, 0, 1, NONE, 1, 0, 1, 1);
        due("it is no end", x.pass(0), 1);
        due("the ROOT is WHITE", x.told(0, 6), 0);
        due("the ROOT's ACK is before the TOKEN", x.receive(0, 2), ACK);
        turn(x, 3);
        due("the next round tells the end", x.pass(0), 2);
    }

    private static void receive() {
        QuietWatch x = started(4);
        x.send(0, 1);
        for (int p : NO_PROCESS) {
            due("receive(0, " + p + ")", x.receive(0, p), NONE);
            due("receive(" + p + ", 1)", x.receive(p, 1), NONE);
        }
        for (int p = 0; p < 4; p++) {
            due("receive(" + p + ", " + p + ")", x.receive(p, p), NONE);
        }
        due("receive of an empty ROW", x.receive(1, 0), NONE);
        due("nothing was received", x.count(8), 0);
        x.ask(0, 2);
        x.probe(0);
        due("the first one", x.receive(0, 1), WORK);
        due("the second one", x.receive(0, 1), REQUEST);
        due("the third one", x.receive(0, 1), PROBE);
        due("no more", x.receive(0, 1), NONE);
        due("MESSAGES received", x.count(8), 3);
        due("MESSAGES under way", x.count(6), 0);
    }

    private static void run() {
        QuietWatch x = started(2);
        x.rest(0);
        due("run(-1, 1)", x.run(-1, 1), NONE);
        due("run(2001, 1)", x.run(2001, 1), NONE);
        due("run(lowest, 1)", x.run(Integer.MIN_VALUE, 1), NONE);
        due("run(highest, 1)", x.run(Integer.MAX_VALUE, 1), NONE);
        due("run(0, 1)", x.run(0, 1), 0);
        due("nothing was done", x.count(3), 0);
        due("run(2000, 1)", x.run(2000, 1), 5);
        due("the RING told the end", x.count(2), 1);
        due("run(2000, 1) behind it", x.run(2000, 1), 0);
    }

    /** The same calls, one by one, must leave another object in the same state. */
    private static void runAgainstItsCalls() {
        for (int processes = 2; processes <= 10; processes++) {
            for (int seed : new int[] {0, 1, -1, 12345, Integer.MIN_VALUE, Integer.MAX_VALUE, -987654321}) {
                QuietWatch x = busy(processes);
                QuietWatch y = busy(processes);
                int done = 0;
                int drawn = seed;
                for (int i = 0; i < 300; i++) {
                    drawn = drawn * 1103515245 + 12345;
                    int k = (drawn >>> 16) % (processes * processes);
                    int p = k / processes;
                    int q = k % processes;
                    done += (p == q ? y.pass(p) : y.receive(p, q)) == NONE ? 0 : 1;
                }
                due("run(300, " + seed + ")", x.run(300, seed), done);
                for (int what = 0; what < 10; what++) {
                    due("count(" + what + ") behind a run", x.count(what), y.count(what));
                }
            }
        }
    }

    private static QuietWatch busy(int processes) {
        QuietWatch x = allActive(processes);
        for (int p = processes - 1; p >= 0; p--) {
            x.send(p, (p + 1) % processes);
            x.rest(p);
        }
        return x;
    }

    private static void told() {
        QuietWatch x = allActive(4);
        for (int p : NO_PROCESS) {
            for (int what = 0; what < 12; what++) {
                due("told(" + p + ", " + what + ")", x.told(p, what), NONE);
            }
        }
        for (int what : new int[] {-1, 12, 13, Integer.MAX_VALUE, Integer.MIN_VALUE}) {
            due("told(0, " + what + ")", x.told(0, what), NONE);
        }
        x.ask(1, 1);
        x.ask(2, 1);
        x.receive(1, 0);
        x.receive(2, 0);
        x.probe(2);
        dueTold("asked by two", x, 0, 1, 0, 1, NONE, 3, 3, 0, 1, 0, 2, 0, 0, NONE);
        dueTold("BLOCKED", x, 2, 1, 1, 1, 0, 0, -1, 1, 0, 1, 0, 0, 1, NONE);
    }

    private static void waits() {
        QuietWatch x = started(4);
        x.ask(0, 14);
        due("waits(0, 0)", x.waits(0, 0), false);
        due("waits(0, 3)", x.waits(0, 3), true);
        due("waits(3, 0)", x.waits(3, 0), false);
        for (int p : NO_PROCESS) {
            due("waits(0, " + p + ")", x.waits(0, p), false);
            due("waits(" + p + ", 1)", x.waits(p, 1), false);
        }
        due("waits(0, 33), whose bit would be that of 1", x.waits(0, 33), false);
    }

    private static void message() {
        QuietWatch x = started(10);
        x.send(0, 9);
        x.ask(0, 512);
        x.probe(0);
        int[][] wants = {{WORK, NONE, NONE}, {REQUEST, NONE, NONE}, {PROBE, 0, 1}, {NONE, NONE, NONE}};
        for (int i = 0; i < wants.length; i++) {
            for (int what = 0; what < 3; what++) {
                due("message(0, 9, " + i + ", " + what + ")", x.message(0, 9, i, what), wants[i][what]);
            }
        }
        for (int what : new int[] {-1, 3, Integer.MAX_VALUE, Integer.MIN_VALUE}) {
            due("message(0, 9, 0, " + what + ")", x.message(0, 9, 0, what), NONE);
            due("message(0, 9, 2, " + what + ")", x.message(0, 9, 2, what), NONE);
        }
        for (int i : new int[] {-1, 4, Integer.MAX_VALUE, Integer.MIN_VALUE}) {
            due("message(0, 9, " + i + ", 0)", x.message(0, 9, i, 0), NONE);
        }
        due("message(9, 9, 0, 0)", x.message(9, 9, 0, 0), NONE);
        due("message(0, 10, 0, 0)", x.message(0, 10, 0, 0), NONE);
        due("message(-1, 9, 0, 0)", x.message(-1, 9, 0, 0), NONE);
        due("message(0, -1, 0, 0)", x.message(0, -1, 0, 0), NONE);
        due("message(-1, 19, 0, 0), whose place would be that of 0 to 9", x.message(-1, 19, 0, 0), NONE);
        due("message(1, -1, 0, 0), whose place would be that of 0 to 9", x.message(1, -1, 0, 0), NONE);
        x.receive(0, 9);
        due("the first one is the next", x.message(0, 9, 0, 0), REQUEST);
    }

    private static void quiet() {
        QuietWatch x = new QuietWatch(2);
        due("quiet() before start", x.quiet(), true);
        x.start();
        due("quiet() with the ROOT ACTIVE", x.quiet(), false);
        x.send(0, 1);
        x.rest(0);
        due("quiet() with WORK under way", x.quiet(), false);
        x.receive(0, 1);
        due("quiet() with 1 ACTIVE", x.quiet(), false);
        x.rest(1);
        due("quiet() with an ACK under way", x.quiet(), true);
        due("the end isn't told", x.count(1), 0);
        x.pass(0);
        due("quiet() with the TOKEN under way", x.quiet(), true);
    }

    private static void wrongAndFalsely() {
        QuietWatch x = busy(5);
        x.run(2000, 1);
        for (int i = 0; i < 20; i++) {
            for (int p = 0; p < 5; p++) {
                x.rest(p);
            }
            x.run(2000, i);
        }
        due("the TREE told the end", x.count(1), 1);
        due("the RING told the end", x.count(2), 1);
        due("wrong()", x.wrong(), 0);
        QuietWatch y = ringOfTen();
        due("DEAD ones", y.count(9), 10);
        due("falsely()", y.falsely(), 0);
    }

    private static QuietWatch ringOfTen() {
        QuietWatch x = allActive(10);
        for (int p = 0; p < 10; p++) {
            ask(x, p, (p + 1) % 10);
        }
        for (int p = 0; p < 10; p++) {
            x.probe(p);
            for (int step = 0; step < 10; step++) {
                due("PROBE " + step, x.receive((p + step) % 10, (p + step + 1) % 10), PROBE);
            }
        }
        return x;
    }

    private static void count() {
        QuietWatch x = allActive(4);
        x.send(1, 2);
        x.send(1, 3);
        x.ask(1, 1);
        dueCounts("some MESSAGES", x, 4, 0, 0, 0, 0, 0, 3, 2, 3, 0, NONE);
        for (int what : new int[] {-1, 10, 11, Integer.MAX_VALUE, Integer.MIN_VALUE}) {
            due("count(" + what + ")", x.count(what), NONE);
        }
    }

    public static void main(String[] args) {
        aNewObject();
        start();
        send();
        sendToAFullRow();
        sendBesideOtherKinds();
        sendWhenOwedAHundred();
        rest();
        theTree();
        workForAPassiveOneInTheTree();
        ask();
        answer();
        probe();
        aProbeThatDoesNotMatter();
        aProbeThatMattersTheSecondTime();
        aProbeSentOn();
        aProbeOfANumberThatMattered();
        aProbeThatComesBackTwice();
        pass();
        theRing();
        theRingWithAnActiveOne();
        theRingBehindWork();
        theRingWhileWorkIsUnderWay();
        theRingWithABlackRoot();
        receive();
        run();
        runAgainstItsCalls();
        told();
        waits();
        message();
        quiet();
        wrongAndFalsely();
        count();
        System.out.println(wrong == 0 ? "all answers are as due" : wrong + " answers are not as due");
        if (wrong != 0) {
            System.exit(1);
        }
    }
}
