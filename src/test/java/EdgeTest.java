/**
 * Each sentence of the document that names an edge has a test of its own here, in the document's
 * order: the last value that is allowed and the first that is not, what there is none of, and what
 * wraps. That a refused call changes nothing else is RefusedTest's.
 */
public final class EdgeTest {
    private static final int NONE = -1;
    private static final int WORK = 1;
    private static final int ACK = 2;
    private static final int TOKEN = 3;
    private static final int REQUEST = 4;
    private static final int REPLY = 5;
    private static final int PROBE = 6;
    private static final int LOWEST = Integer.MIN_VALUE;
    private static final int HIGHEST = Integer.MAX_VALUE;

    private static String sentence = "";
    private static int wrong = 0;

    private static void due(String call, int got, int want) {
        if (got != want) {
            wrong++;
            System.out.println("'" + sentence + "': " + call + " answered " + got + ", due is " + want);
        }
    }

    private static void due(String call, boolean got, boolean want) {
        due(call, got ? 1 : 0, want ? 1 : 0);
    }

    private static void test(String ofSentence, Runnable calls) {
        sentence = ofSentence;
        calls.run();
    }

    /** Numbers that are no process of so many; some share their low bits with one that is. */
    private static int[] noneOf(int processes) {
        return new int[] {-1, -2, -32, processes, processes + 1, 31, 32, 33, 64, 256, 65536, LOWEST, LOWEST + 1, HIGHEST};
    }

    private static QuietWatch started(int processes) {
        QuietWatch x = new QuietWatch(processes);
        due("start()", x.start(), true);
        return x;
    }

    /** All of them ACTIVE with the ROOT as PARENT, and no MESSAGE under way. */
    private static QuietWatch allActive(int processes) {
        QuietWatch x = started(processes);
        for (int q = 1; q < processes; q++) {
            give(x, 0, q);
        }
        return x;
    }

    private static void give(QuietWatch x, int p, int q) {
        due("send(" + p + ", " + q + ")", x.send(p, q), true);
        due("receive(" + p + ", " + q + ")", x.receive(p, q), WORK);
    }

    /** p WAITS for each of a mask, and its REQUESTS are PENDING there. */
    private static void askAndReceive(QuietWatch x, int p, int mask) {
        due("ask(" + p + ", " + mask + ")", x.ask(p, mask), Integer.bitCount(mask));
        for (int q = 0; q < 10; q++) {
            if ((mask >> q & 1) == 1) {
                due("receive(" + p + ", " + q + ")", x.receive(p, q), REQUEST);
            }
        }
    }

    private static void answerAndReceive(QuietWatch x, int q, int p) {
        due("answer(" + q + ", " + p + ")", x.answer(q, p), true);
        due("receive(" + q + ", " + p + ")", x.receive(q, p), REPLY);
    }

    private static void dueReceived(QuietWatch x, int p, int q, int... kinds) {
        for (int kind : kinds) {
            due("receive(" + p + ", " + q + ")", x.receive(p, q), kind);
        }
    }

    private static void dueTold(QuietWatch x, int p, int what, int want) {
        due("told(" + p + ", " + what + ")", x.told(p, what), want);
    }

    private static void dueCount(QuietWatch x, int what, int want) {
        due("count(" + what + ")", x.count(what), want);
    }

    /** The KINDS of a ROW from its first MESSAGE on, and none behind them. */
    private static void dueRow(QuietWatch x, int p, int q, int... kinds) {
        for (int i = 0; i < kinds.length; i++) {
            due("message(" + p + ", " + q + ", " + i + ", 0)", x.message(p, q, i, 0), kinds[i]);
        }
        due("message(" + p + ", " + q + ", " + kinds.length + ", 0)", x.message(p, q, kinds.length, 0), NONE);
    }

    private static void dueProbe(QuietWatch x, int p, int q, int i, int began, int number) {
        String call = "message(" + p + ", " + q + ", " + i + ", ";
        due(call + "0)", x.message(p, q, i, 0), PROBE);
        due(call + "1)", x.message(p, q, i, 1), began);
        due(call + "2)", x.message(p, q, i, 2), number);
    }

    // ==== 1

    private static void numbersFromZeroOn() {
        for (int n = 2; n <= 10; n++) {
            QuietWatch x = new QuietWatch(n);
            for (int p = 0; p < n; p++) {
                dueTold(x, p, 0, 0);
            }
            dueTold(x, -1, 0, NONE);
            dueTold(x, n, 0, NONE);
        }
    }

    private static void blockedAsLongAsItWaits() {
        QuietWatch x = started(4);
        askAndReceive(x, 0, 0b1110);
        for (int q = 1; q < 4; q++) {
            dueTold(x, 0, 1, 1);
            dueTold(x, 0, 8, 4 - q);
            answerAndReceive(x, q, 0);
        }
        dueTold(x, 0, 1, 0);
        dueTold(x, 0, 8, 0);
        dueTold(x, 0, 0, 1);
    }

    private static void aRowFromEachToEachOther() {
        for (int p = 0; p < 10; p++) {
            for (int q = 0; q < 10; q++) {
                QuietWatch x = allActive(10);
                due("send(" + p + ", " + q + ")", x.send(p, q), p != q);
                for (int row = 0; row < 100; row++) {
                    int from = row / 10;
                    int to = row % 10;
                    int want = p != q && from == p && to == q ? WORK : NONE;
                    due("message(" + from + ", " + to + ", 0, 0)", x.message(from, to, 0, 0), want);
                }
            }
        }
    }

    private static void theFirstOfARowIsReceived() {
        QuietWatch x = allActive(3);
        give(x, 2, 1);
        due("send(1, 2)", x.send(1, 2), true);
        due("ask(1, 4)", x.ask(1, 4), 1);
        due("probe(1)", x.probe(1), 1);
        due("probe(1)", x.probe(1), 2);
        dueRow(x, 1, 2, ACK, WORK, REQUEST, PROBE, PROBE);
        dueReceived(x, 1, 2, ACK, WORK, REQUEST, PROBE);
        dueProbe(x, 1, 2, 0, 1, 2);
        dueReceived(x, 1, 2, PROBE, NONE);
    }

    /** Two PROBES come for each that is received, so the ROW grows while its first ones go. */
    private static void oneBehindTheOther() {
        QuietWatch x = started(2);
        askAndReceive(x, 0, 0b10);
        int first = 1;
        for (int number = 1; number <= 50; number++) {
            due("probe(0)", x.probe(0), number);
            dueProbe(x, 0, 1, number - first, 0, number);
            if (number % 2 == 0) {
                dueReceived(x, 0, 1, PROBE);
                first++;
            }
        }
        for (int number = first; number <= 50; number++) {
            dueProbe(x, 0, 1, 0, 0, number);
            dueReceived(x, 0, 1, PROBE);
        }
        dueCount(x, 6, 0);
    }

    // ==== 2

    private static void theRootNeverHasAParent() {
        QuietWatch x = new QuietWatch(3);
        dueTold(x, 0, 3, NONE);
        due("start()", x.start(), true);
        give(x, 0, 1);
        give(x, 1, 0);
        dueTold(x, 0, 3, NONE);
        due("rest(0)", x.rest(0), true);
        give(x, 1, 0);
        dueTold(x, 0, 3, NONE);
        dueRow(x, 0, 1, ACK, ACK);
    }

    private static void theRootIsInTheTreeFromStartOn() {
        QuietWatch x = new QuietWatch(2);
        dueTold(x, 0, 2, 0);
        due("start()", x.start(), true);
        dueTold(x, 0, 2, 1);
        due("send(0, 1)", x.send(0, 1), true);
        due("rest(0)", x.rest(0), true);
        dueTold(x, 0, 2, 1);
        dueReceived(x, 0, 1, WORK);
        due("rest(1)", x.rest(1), true);
        dueTold(x, 0, 2, 1);
        dueCount(x, 1, 0);
        dueReceived(x, 1, 0, ACK);
        dueTold(x, 0, 2, 0);
        dueCount(x, 1, 1);
    }

    private static void anotherIsInTheTreeAsLongAsItHasAParent() {
        QuietWatch x = started(3);
        dueTold(x, 2, 2, 0);
        dueTold(x, 2, 3, NONE);
        due("send(0, 2)", x.send(0, 2), true);
        dueTold(x, 2, 2, 0);
        dueReceived(x, 0, 2, WORK);
        dueTold(x, 2, 2, 1);
        dueTold(x, 2, 3, 0);
        due("rest(2)", x.rest(2), true);
        dueTold(x, 2, 2, 0);
        dueTold(x, 2, 3, NONE);
    }

    private static void workForOneThatIsNotInTheTree() {
        QuietWatch x = allActive(3);
        due("rest(2)", x.rest(2), true);
        dueReceived(x, 2, 0, ACK);
        give(x, 1, 2);
        dueTold(x, 2, 3, 1);
        dueTold(x, 2, 0, 1);
        dueCount(x, 6, 0);
    }

    private static void workForOneThatIsInTheTree() {
        QuietWatch x = allActive(3);
        give(x, 1, 2);
        dueTold(x, 2, 3, 0);
        dueRow(x, 2, 1, ACK);
        dueRow(x, 2, 0);
        give(x, 0, 2);
        dueRow(x, 2, 0, ACK);
        dueTold(x, 2, 3, 0);
    }

    private static void anAckMakesOwedOneLess() {
        QuietWatch x = allActive(2);
        give(x, 0, 1);
        dueTold(x, 0, 4, 2);
        dueReceived(x, 1, 0, ACK);
        dueTold(x, 0, 4, 1);
        dueTold(x, 0, 5, 2);
    }

    private static void passiveButOwedOneStays() {
        QuietWatch x = allActive(3);
        due("send(1, 2)", x.send(1, 2), true);
        due("rest(1)", x.rest(1), true);
        dueTold(x, 1, 4, 1);
        dueTold(x, 1, 3, 0);
        dueRow(x, 1, 0);
        dueReceived(x, 1, 2, WORK);
        dueReceived(x, 2, 1, ACK);
        dueTold(x, 1, 4, 0);
        dueTold(x, 1, 3, NONE);
        dueRow(x, 1, 0, ACK);
    }

    private static void activeButOwedNothingStays() {
        QuietWatch x = allActive(3);
        give(x, 1, 2);
        dueReceived(x, 2, 1, ACK);
        dueTold(x, 1, 4, 0);
        dueTold(x, 1, 3, 0);
        dueRow(x, 1, 0);
        due("rest(1)", x.rest(1), true);
        dueTold(x, 1, 3, NONE);
        dueRow(x, 1, 0, ACK);
    }

    private static void theAckGoesToTheParent() {
        QuietWatch x = started(4);
        give(x, 0, 1);
        give(x, 1, 3);
        give(x, 3, 2);
        due("rest(3)", x.rest(3), true);
        dueTold(x, 3, 3, 1);
        due("rest(2)", x.rest(2), true);
        dueTold(x, 2, 3, NONE);
        dueRow(x, 2, 3, ACK);
        dueCount(x, 6, 1);
        dueReceived(x, 2, 3, ACK);
        dueTold(x, 3, 3, NONE);
        dueRow(x, 3, 1, ACK);
        dueCount(x, 6, 1);
    }

    private static void theRootTellsTheEndByAnAck() {
        QuietWatch x = allActive(3);
        due("rest(0)", x.rest(0), true);
        due("rest(1)", x.rest(1), true);
        due("rest(2)", x.rest(2), true);
        dueCount(x, 1, 0);
        dueReceived(x, 1, 0, ACK);
        dueTold(x, 0, 4, 1);
        dueCount(x, 1, 0);
        dueReceived(x, 2, 0, ACK);
        dueCount(x, 1, 1);
        dueCount(x, 6, 0);
    }

    private static void theRootTellsTheEndByRest() {
        QuietWatch x = allActive(3);
        due("rest(1)", x.rest(1), true);
        due("rest(2)", x.rest(2), true);
        dueReceived(x, 1, 0, ACK);
        dueReceived(x, 2, 0, ACK);
        dueTold(x, 0, 4, 0);
        dueCount(x, 1, 0);
        due("rest(0)", x.rest(0), true);
        dueCount(x, 1, 1);
        dueCount(x, 6, 0);
    }

    private static void behindATurnOfRun() {
        QuietWatch x = started(2);
        due("send(0, 1)", x.send(0, 1), true);
        due("rest(0)", x.rest(0), true);
        dueReceived(x, 0, 1, WORK);
        due("send(1, 0)", x.send(1, 0), true);
        due("rest(1)", x.rest(1), true);
        // Seed 1 draws 1 to 0; seed 4 draws 0 to 1, which leaves 1 with nothing OWED.
        due("run(1, 1)", x.run(1, 1), 1);
        dueRow(x, 0, 1, ACK);
        due("run(1, 4)", x.run(1, 4), 1);
        dueTold(x, 1, 2, 0);
        dueRow(x, 1, 0, ACK);
        due("rest(0)", x.rest(0), true);
        dueCount(x, 1, 0);
        due("run(1, 1)", x.run(1, 1), 1);
        dueCount(x, 1, 1);
    }

    // ==== 3

    private static void theRingAtFirst() {
        for (int n = 2; n <= 10; n++) {
            QuietWatch x = new QuietWatch(n);
            for (int p = 0; p < n; p++) {
                dueTold(x, p, 5, 0);
                dueTold(x, p, 6, 0);
                dueTold(x, p, 7, p == 0 ? 1 : 0);
            }
            dueCount(x, 3, 0);
            dueCount(x, 4, 0);
            dueCount(x, 5, 0);
        }
    }

    private static void noRoundIsUnderWayAtFirst() {
        for (int n = 2; n <= 10; n++) {
            QuietWatch x = started(n);
            due("rest(0)", x.rest(0), true);
            due("pass(0)", x.pass(0), 1);
            dueCount(x, 2, 0);
            dueCount(x, 3, 1);
            dueRow(x, 0, n - 1, TOKEN);
            dueCount(x, 6, 1);
        }
    }

    /** The TOKEN goes from the ROOT to the ROOT, past those that are all PASSIVE. */
    private static void round(QuietWatch x, int n) {
        due("pass(0)", x.pass(0), 1);
        dueReceived(x, 0, n - 1, TOKEN);
        for (int p = n - 1; p > 0; p--) {
            due("pass(" + p + ")", x.pass(p), 1);
            dueReceived(x, p, p - 1, TOKEN);
        }
    }

    private static void theTokenGoesToTheNextLower() {
        for (int n = 2; n <= 10; n++) {
            QuietWatch x = started(n);
            due("rest(0)", x.rest(0), true);
            round(x, n);
            dueTold(x, 0, 7, 1);
            due("pass(0)", x.pass(0), 2);
            dueCount(x, 2, 1);
            dueCount(x, 3, 1);
        }
    }

    private static void whoReceivesTheTokenHasIt() {
        QuietWatch x = started(3);
        due("rest(0)", x.rest(0), true);
        due("pass(0)", x.pass(0), 1);
        for (int p = 0; p < 3; p++) {
            dueTold(x, p, 7, 0);
        }
        dueReceived(x, 0, 2, TOKEN);
        for (int p = 0; p < 3; p++) {
            dueTold(x, p, 7, p == 2 ? 1 : 0);
        }
    }

    private static void theCountOfEach() {
        QuietWatch x = allActive(3);
        dueTold(x, 0, 5, 2);
        dueTold(x, 1, 5, -1);
        due("send(1, 2)", x.send(1, 2), true);
        dueTold(x, 1, 5, 0);
        dueTold(x, 2, 5, -1);
        dueReceived(x, 1, 2, WORK);
        dueTold(x, 2, 5, -2);
        dueReceived(x, 2, 1, ACK);
        dueTold(x, 1, 5, 0);
    }

    private static void onlyWorkMakesBlack() {
        QuietWatch x = allActive(3);
        dueTold(x, 1, 6, 1);
        give(x, 0, 1);
        dueReceived(x, 1, 0, ACK);
        askAndReceive(x, 1, 0b001);
        due("probe(1)", x.probe(1), 1);
        dueReceived(x, 1, 0, PROBE);
        answerAndReceive(x, 0, 1);
        askAndReceive(x, 0, 0b010);
        answerAndReceive(x, 1, 0);
        dueTold(x, 0, 6, 0);
        due("send(1, 0)", x.send(1, 0), true);
        dueTold(x, 0, 6, 0);
        dueReceived(x, 1, 0, WORK);
        dueTold(x, 0, 6, 1);
    }

    /** 2 received the ROOT's WORK before the round, so the TOKEN comes back BLACK. */
    private static QuietWatch behindABlackRound() {
        QuietWatch x = started(4);
        give(x, 0, 2);
        due("rest(2)", x.rest(2), true);
        due("rest(0)", x.rest(0), true);
        dueReceived(x, 2, 0, ACK);
        round(x, 4);
        return x;
    }

    private static void aBlackTokenIsNoEnd() {
        QuietWatch x = behindABlackRound();
        dueCount(x, 5, 1);
        dueTold(x, 0, 6, 0);
        due("SUM and COUNT together", x.count(4) + x.told(0, 5), 0);
        due("quiet()", x.quiet(), true);
        due("pass(0)", x.pass(0), 1);
        dueCount(x, 2, 0);
        dueCount(x, 3, 2);
    }

    private static void theTokenStaysBlackPastAWhiteOne() {
        QuietWatch x = started(4);
        give(x, 0, 2);
        due("rest(2)", x.rest(2), true);
        due("rest(0)", x.rest(0), true);
        dueReceived(x, 2, 0, ACK);
        due("pass(0)", x.pass(0), 1);
        dueReceived(x, 0, 3, TOKEN);
        due("pass(3)", x.pass(3), 1);
        dueCount(x, 5, 0);
        dueCount(x, 4, 0);
        dueReceived(x, 3, 2, TOKEN);
        dueTold(x, 2, 6, 1);
        due("pass(2)", x.pass(2), 1);
        dueTold(x, 2, 6, 0);
        dueCount(x, 5, 1);
        dueCount(x, 4, -1);
        dueReceived(x, 2, 1, TOKEN);
        due("pass(1)", x.pass(1), 1);
        dueCount(x, 5, 1);
        dueCount(x, 4, -1);
    }

    private static void aNewRoundIsWhiteWithSumZero() {
        QuietWatch x = behindABlackRound();
        dueCount(x, 4, -1);
        due("pass(0)", x.pass(0), 1);
        dueCount(x, 4, 0);
        dueCount(x, 5, 0);
        dueRow(x, 0, 3, TOKEN);
    }

    private static void oneWorkUnderWayIsNoEnd() {
        QuietWatch x = started(3);
        due("send(0, 1)", x.send(0, 1), true);
        due("rest(0)", x.rest(0), true);
        round(x, 3);
        dueCount(x, 5, 0);
        dueTold(x, 0, 6, 0);
        due("SUM and COUNT together", x.count(4) + x.told(0, 5), 1);
        due("pass(0)", x.pass(0), 1);
        dueCount(x, 2, 0);
        due("wrong()", x.wrong(), 0);
    }

    private static void aBlackRootIsNoEnd() {
        QuietWatch x = started(3);
        give(x, 0, 2);
        due("send(2, 0)", x.send(2, 0), true);
        due("rest(2)", x.rest(2), true);
        due("rest(0)", x.rest(0), true);
        round(x, 3);
        due("pass(0)", x.pass(0), 1);
        dueReceived(x, 2, 0, WORK);
        due("rest(0)", x.rest(0), true);
        dueReceived(x, 0, 2, TOKEN);
        due("pass(2)", x.pass(2), 1);
        dueReceived(x, 2, 1, TOKEN);
        due("pass(1)", x.pass(1), 1);
        dueReceived(x, 1, 0, TOKEN);
        dueCount(x, 5, 0);
        dueTold(x, 0, 6, 1);
        due("SUM and COUNT together", x.count(4) + x.told(0, 5), 0);
        due("pass(0)", x.pass(0), 1);
        dueCount(x, 2, 0);
        dueTold(x, 0, 6, 0);
    }

    private static void theTokenGoesNoMore() {
        QuietWatch x = started(3);
        due("rest(0)", x.rest(0), true);
        round(x, 3);
        due("pass(0)", x.pass(0), 2);
        dueCount(x, 3, 1);
        dueCount(x, 4, 0);
        dueCount(x, 6, 0);
        dueTold(x, 0, 7, 1);
        for (int p = 0; p < 3; p++) {
            due("pass(" + p + ")", x.pass(p), NONE);
        }
    }

    private static void theRingTellsBeforeTheTree() {
        QuietWatch x = started(3);
        give(x, 0, 2);
        due("rest(2)", x.rest(2), true);
        due("rest(0)", x.rest(0), true);
        round(x, 3);
        round(x, 3);
        due("pass(0)", x.pass(0), 2);
        dueCount(x, 1, 0);
        dueTold(x, 0, 2, 1);
        dueReceived(x, 2, 0, ACK);
        dueCount(x, 1, 1);
        dueCount(x, 2, 1);
        due("wrong()", x.wrong(), 0);
    }

    // ==== 4

    private static void whoReceivesARequestHasItPending() {
        QuietWatch x = allActive(4);
        due("ask(1, 1)", x.ask(1, 1), 1);
        dueTold(x, 0, 9, 0);
        dueReceived(x, 1, 0, REQUEST);
        dueTold(x, 0, 9, 1);
        askAndReceive(x, 2, 1);
        askAndReceive(x, 3, 1);
        dueTold(x, 0, 9, 3);
        due("answer(0, 2)", x.answer(0, 2), true);
        dueTold(x, 0, 9, 2);
    }

    private static void aReplyEndsTheWaitForThatOneAlone() {
        QuietWatch x = started(3);
        askAndReceive(x, 0, 0b110);
        due("answer(2, 0)", x.answer(2, 0), true);
        due("waits(0, 2)", x.waits(0, 2), true);
        dueReceived(x, 2, 0, REPLY);
        due("waits(0, 2)", x.waits(0, 2), false);
        due("waits(0, 1)", x.waits(0, 1), true);
    }

    private static void aProbeForOneThatIsNotBlocked() {
        QuietWatch x = allActive(3);
        askAndReceive(x, 0, 0b010);
        due("probe(0)", x.probe(0), 1);
        dueReceived(x, 0, 1, PROBE);
        dueCount(x, 6, 0);
        dueCount(x, 9, 0);
    }

    private static void aProbeWhereNoRequestIsPending() {
        QuietWatch x = allActive(4);
        askAndReceive(x, 0, 0b010);
        askAndReceive(x, 3, 0b010);
        due("answer(1, 0)", x.answer(1, 0), true);
        due("probe(0)", x.probe(0), 1);
        askAndReceive(x, 1, 0b100);
        // 1 is BLOCKED, and has 3's REQUEST, but 0's is answered.
        dueReceived(x, 0, 1, PROBE);
        dueRow(x, 1, 2);
        due("probe(3)", x.probe(3), 1);
        dueReceived(x, 3, 1, PROBE);
        dueProbe(x, 1, 2, 0, 3, 1);
    }

    /** 0 has answered 1, which WAITS for it till the REPLY comes: no ring of 0, 2 and 1. */
    private static void ownProbeWhereNoRequestIsPending() {
        QuietWatch x = allActive(3);
        askAndReceive(x, 1, 0b001);
        due("answer(0, 1)", x.answer(0, 1), true);
        askAndReceive(x, 0, 0b100);
        askAndReceive(x, 2, 0b010);
        due("probe(0)", x.probe(0), 1);
        dueReceived(x, 0, 2, PROBE);
        dueReceived(x, 2, 1, PROBE);
        dueProbe(x, 1, 0, 0, 0, 1);
        dueReceived(x, 1, 0, PROBE);
        dueTold(x, 0, 10, 0);
        dueCount(x, 9, 0);
        dueRow(x, 0, 1, REPLY);
        dueCount(x, 6, 1);
    }

    /** 0 waits for 1 and 2, both of these for 3, and 3 for 4: a PROBE of 0 comes to 3 by two ways. */
    private static QuietWatch twoWaysToThree() {
        QuietWatch x = allActive(5);
        askAndReceive(x, 0, 0b00110);
        askAndReceive(x, 1, 0b01000);
        askAndReceive(x, 2, 0b01000);
        askAndReceive(x, 3, 0b10000);
        return x;
    }

    private static void aProbeOfTheSameNumber() {
        QuietWatch x = twoWaysToThree();
        due("probe(0)", x.probe(0), 1);
        dueReceived(x, 0, 1, PROBE);
        dueReceived(x, 0, 2, PROBE);
        dueReceived(x, 1, 3, PROBE);
        dueProbe(x, 3, 4, 0, 0, 1);
        dueReceived(x, 2, 3, PROBE);
        dueRow(x, 3, 4, PROBE);
    }

    private static void aProbeOfALesserNumber() {
        QuietWatch x = twoWaysToThree();
        due("probe(0)", x.probe(0), 1);
        due("probe(0)", x.probe(0), 2);
        due("probe(0)", x.probe(0), 3);
        dueReceived(x, 0, 1, PROBE, PROBE);
        dueReceived(x, 1, 3, PROBE, PROBE);
        dueRow(x, 3, 4, PROBE, PROBE);
        dueReceived(x, 0, 2, PROBE, PROBE, PROBE);
        dueReceived(x, 2, 3, PROBE);
        dueRow(x, 3, 4, PROBE, PROBE);
        dueReceived(x, 2, 3, PROBE);
        dueRow(x, 3, 4, PROBE, PROBE);
        dueReceived(x, 2, 3, PROBE);
        dueRow(x, 3, 4, PROBE, PROBE, PROBE);
        dueProbe(x, 3, 4, 2, 0, 3);
    }

    private static void aProbeOfAnotherBeginner() {
        QuietWatch x = twoWaysToThree();
        due("probe(0)", x.probe(0), 1);
        due("probe(0)", x.probe(0), 2);
        dueReceived(x, 0, 1, PROBE, PROBE);
        dueReceived(x, 1, 3, PROBE, PROBE);
        due("probe(2)", x.probe(2), 1);
        dueReceived(x, 2, 3, PROBE);
        dueRow(x, 3, 4, PROBE, PROBE, PROBE);
        dueProbe(x, 3, 4, 2, 2, 1);
    }

    private static void theNumbersOfEachBeginner() {
        QuietWatch x = allActive(6);
        askAndReceive(x, 5, 0b000110);
        askAndReceive(x, 1, 0b001000);
        askAndReceive(x, 2, 0b001000);
        askAndReceive(x, 3, 0b010000);
        due("probe(5)", x.probe(5), 1);
        due("probe(1)", x.probe(1), 1);
        dueReceived(x, 1, 3, PROBE);
        dueReceived(x, 5, 1, PROBE);
        dueReceived(x, 1, 3, PROBE);
        dueRow(x, 3, 4, PROBE, PROBE);
        dueProbe(x, 3, 4, 0, 1, 1);
        dueProbe(x, 3, 4, 1, 5, 1);
        dueReceived(x, 5, 2, PROBE);
        dueReceived(x, 2, 3, PROBE);
        dueRow(x, 3, 4, PROBE, PROBE);
    }

    private static void aProbeThatDidNotMatterBefore() {
        QuietWatch x = allActive(4);
        askAndReceive(x, 0, 0b0110);
        askAndReceive(x, 2, 0b0010);
        due("probe(0)", x.probe(0), 1);
        dueReceived(x, 0, 1, PROBE);
        askAndReceive(x, 1, 0b1000);
        dueReceived(x, 0, 2, PROBE);
        dueReceived(x, 2, 1, PROBE);
        dueProbe(x, 1, 3, 0, 0, 1);
    }

    private static void aProbeGoesToEachThatIsWaitedFor() {
        QuietWatch x = allActive(5);
        askAndReceive(x, 0, 0b00010);
        askAndReceive(x, 1, 0b11101);
        answerAndReceive(x, 3, 1);
        due("probe(0)", x.probe(0), 1);
        dueReceived(x, 0, 1, PROBE);
        dueProbe(x, 1, 0, 0, 0, 1);
        dueProbe(x, 1, 2, 0, 0, 1);
        dueRow(x, 1, 3);
        dueProbe(x, 1, 4, 0, 0, 1);
        dueCount(x, 6, 3);
    }

    private static void whoWaitsForARingIsNotInIt() {
        QuietWatch x = allActive(3);
        askAndReceive(x, 0, 0b010);
        askAndReceive(x, 1, 0b100);
        askAndReceive(x, 2, 0b010);
        due("probe(0)", x.probe(0), 1);
        dueReceived(x, 0, 1, PROBE);
        dueReceived(x, 1, 2, PROBE);
        dueReceived(x, 2, 1, PROBE);
        dueCount(x, 6, 0);
        dueCount(x, 9, 0);
        due("probe(1)", x.probe(1), 1);
        dueReceived(x, 1, 2, PROBE);
        dueReceived(x, 2, 1, PROBE);
        dueTold(x, 1, 10, 1);
        dueTold(x, 0, 10, 0);
        dueTold(x, 2, 10, 0);
        dueCount(x, 9, 1);
        due("falsely()", x.falsely(), 0);
    }

    private static void ownProbeIsNotSentOn() {
        QuietWatch x = allActive(2);
        askAndReceive(x, 0, 0b10);
        askAndReceive(x, 1, 0b01);
        due("probe(0)", x.probe(0), 1);
        dueReceived(x, 0, 1, PROBE);
        dueReceived(x, 1, 0, PROBE);
        dueTold(x, 0, 10, 1);
        dueCount(x, 6, 0);
    }

    private static void deadAsOftenAsItIsTold() {
        QuietWatch x = allActive(3);
        askAndReceive(x, 0, 0b110);
        askAndReceive(x, 1, 0b001);
        askAndReceive(x, 2, 0b001);
        due("probe(0)", x.probe(0), 1);
        dueReceived(x, 0, 1, PROBE);
        dueReceived(x, 0, 2, PROBE);
        dueReceived(x, 1, 0, PROBE);
        dueTold(x, 0, 10, 1);
        dueReceived(x, 2, 0, PROBE);
        dueTold(x, 0, 10, 2);
        dueCount(x, 9, 2);
        due("falsely()", x.falsely(), 0);
    }

    // Promise 1

    private static void fewerThanTwoAreTwo() {
        for (int given : new int[] {2, 1, 0, -1, -2, -10, LOWEST + 1, LOWEST}) {
            QuietWatch x = new QuietWatch(given);
            dueCount(x, 0, 2);
            dueTold(x, 1, 0, 0);
            dueTold(x, 2, 0, NONE);
        }
        dueCount(new QuietWatch(3), 0, 3);
    }

    private static void moreThanTenAreTen() {
        for (int given : new int[] {10, 11, 12, 100, 65536, 65538, HIGHEST - 1, HIGHEST}) {
            QuietWatch x = new QuietWatch(given);
            dueCount(x, 0, 10);
            dueTold(x, 9, 0, 0);
            dueTold(x, 10, 0, NONE);
        }
        dueCount(new QuietWatch(9), 0, 9);
    }

    private static void allBetweenAreThemselves() {
        for (int n = 2; n <= 10; n++) {
            dueCount(new QuietWatch(n), 0, n);
        }
    }

    // Promise 2

    private static void startIsOnce() {
        QuietWatch x = new QuietWatch(2);
        dueTold(x, 0, 0, 0);
        due("start()", x.start(), true);
        dueTold(x, 0, 0, 1);
        dueTold(x, 1, 0, 0);
        due("start()", x.start(), false);
        due("start()", x.start(), false);
    }

    private static void startWhenTheRootIsPassiveAgain() {
        QuietWatch x = allActive(2);
        due("rest(0)", x.rest(0), true);
        due("start()", x.start(), false);
        dueTold(x, 0, 0, 0);
        due("rest(1)", x.rest(1), true);
        dueReceived(x, 1, 0, ACK);
        dueCount(x, 1, 1);
        due("start()", x.start(), false);
        dueTold(x, 0, 0, 0);
        dueTold(x, 0, 2, 0);
    }

    // Promise 3

    private static void sendOfOneThatIsNotActive() {
        QuietWatch x = new QuietWatch(3);
        due("send(0, 1)", x.send(0, 1), false);
        due("start()", x.start(), true);
        due("send(1, 0)", x.send(1, 0), false);
        due("send(0, 1)", x.send(0, 1), true);
        due("send(1, 0)", x.send(1, 0), false);
        dueReceived(x, 0, 1, WORK);
        due("send(1, 0)", x.send(1, 0), true);
        due("rest(1)", x.rest(1), true);
        due("send(1, 0)", x.send(1, 0), false);
    }

    private static void sendOfOneThatIsBlocked() {
        QuietWatch x = started(3);
        askAndReceive(x, 0, 0b110);
        due("send(0, 1)", x.send(0, 1), false);
        answerAndReceive(x, 1, 0);
        due("send(0, 1)", x.send(0, 1), false);
        answerAndReceive(x, 2, 0);
        due("send(0, 1)", x.send(0, 1), true);
    }

    private static void sendWithNoSuchOne() {
        for (int n : new int[] {2, 3, 10}) {
            QuietWatch x = allActive(n);
            for (int none : noneOf(n)) {
                due("send(" + none + ", 0)", x.send(none, 0), false);
                due("send(0, " + none + ")", x.send(0, none), false);
                due("send(" + none + ", " + none + ")", x.send(none, none), false);
            }
            dueCount(x, 6, 0);
            due("send(0, " + (n - 1) + ")", x.send(0, n - 1), true);
            due("send(" + (n - 1) + ", 0)", x.send(n - 1, 0), true);
        }
    }

    private static void sendToItself() {
        QuietWatch x = allActive(10);
        for (int p = 0; p < 10; p++) {
            due("send(" + p + ", " + p + ")", x.send(p, p), false);
        }
        dueCount(x, 6, 0);
    }

    private static void sendAll(QuietWatch x, int p, int q, int times) {
        for (int i = 0; i < times; i++) {
            due("send(" + p + ", " + q + ")", x.send(p, q), true);
        }
    }

    private static void twentyWorksInARow() {
        QuietWatch x = allActive(3);
        sendAll(x, 0, 1, 19);
        dueCount(x, 7, 19);
        sendAll(x, 0, 1, 1);
        dueCount(x, 7, 20);
        due("send(0, 1)", x.send(0, 1), false);
        sendAll(x, 0, 2, 1);
        sendAll(x, 1, 0, 1);
        sendAll(x, 2, 1, 1);
        due("send(0, 1)", x.send(0, 1), false);
        dueReceived(x, 0, 1, WORK);
        sendAll(x, 0, 1, 1);
        due("send(0, 1)", x.send(0, 1), false);
    }

    private static void twentyOtherMessagesInARow() {
        QuietWatch x = allActive(2);
        for (int i = 0; i < 20; i++) {
            give(x, 0, 1);
        }
        dueCount(x, 6, 20);
        sendAll(x, 1, 0, 20);
        due("send(1, 0)", x.send(1, 0), false);
        dueReceived(x, 1, 0, ACK);
        due("send(1, 0)", x.send(1, 0), false);
        dueCount(x, 6, 39);
        dueCount(x, 7, 20);
    }

    private static void aRowUsedAgainAndAgain() {
        QuietWatch x = allActive(2);
        sendAll(x, 0, 1, 20);
        for (int i = 0; i < 60; i++) {
            dueReceived(x, 0, 1, WORK);
            dueReceived(x, 1, 0, ACK);
            sendAll(x, 0, 1, 1);
            due("send(0, 1)", x.send(0, 1), false);
        }
        dueTold(x, 0, 5, 81);
        dueTold(x, 0, 4, 21);
    }

    private static void owedAHundred() {
        QuietWatch x = started(7);
        for (int q = 1; q < 6; q++) {
            sendAll(x, 0, q, q < 5 ? 20 : 19);
        }
        dueTold(x, 0, 4, 99);
        sendAll(x, 0, 5, 1);
        dueTold(x, 0, 4, 100);
        due("send(0, 6)", x.send(0, 6), false);
        dueReceived(x, 0, 1, WORK, WORK);
        due("send(0, 1)", x.send(0, 1), false);
        due("send(0, 6)", x.send(0, 6), false);
        dueReceived(x, 1, 0, ACK);
        dueTold(x, 0, 4, 99);
        sendAll(x, 0, 6, 1);
        due("send(0, 6)", x.send(0, 6), false);
        sendAll(x, 1, 6, 1);
    }

    private static void owedAHundredOfAnother() {
        QuietWatch x = allActive(10);
        for (int i = 0; i < 100; i++) {
            sendAll(x, 9, i / 20, 1);
        }
        due("send(9, 8)", x.send(9, 8), false);
        dueTold(x, 9, 4, 100);
        dueTold(x, 9, 5, 99);
        sendAll(x, 0, 8, 1);
    }

    private static void aCountOfAHundredIsNotOwed() {
        QuietWatch x = allActive(2);
        for (int i = 0; i < 110; i++) {
            give(x, 0, 1);
            dueReceived(x, 1, 0, ACK);
        }
        dueTold(x, 0, 5, 111);
        dueTold(x, 0, 4, 1);
        dueTold(x, 1, 5, -111);
        sendAll(x, 0, 1, 1);
    }

    // Promise 4

    private static void restOfOneThatIsNotActive() {
        QuietWatch x = new QuietWatch(3);
        due("rest(0)", x.rest(0), false);
        due("start()", x.start(), true);
        due("rest(1)", x.rest(1), false);
        due("rest(0)", x.rest(0), true);
        due("rest(0)", x.rest(0), false);
    }

    private static void restOfOneThatIsBlocked() {
        QuietWatch x = started(3);
        askAndReceive(x, 0, 0b110);
        due("rest(0)", x.rest(0), false);
        answerAndReceive(x, 1, 0);
        due("rest(0)", x.rest(0), false);
        answerAndReceive(x, 2, 0);
        due("rest(0)", x.rest(0), true);
    }

    private static void restOfNoSuchOne() {
        for (int n : new int[] {2, 5, 10}) {
            QuietWatch x = allActive(n);
            for (int none : noneOf(n)) {
                due("rest(" + none + ")", x.rest(none), false);
            }
            due("rest(" + (n - 1) + ")", x.rest(n - 1), true);
            due("rest(0)", x.rest(0), true);
        }
    }

    // Promise 5

    private static void askBeforeStart() {
        QuietWatch x = new QuietWatch(3);
        due("ask(0, 6)", x.ask(0, 6), NONE);
        due("start()", x.start(), true);
        due("ask(1, 5)", x.ask(1, 5), NONE);
        due("ask(0, 6)", x.ask(0, 6), 2);
    }

    private static void askOfOneThatIsBlocked() {
        QuietWatch x = started(3);
        due("ask(0, 2)", x.ask(0, 2), 1);
        due("ask(0, 2)", x.ask(0, 2), NONE);
        due("ask(0, 4)", x.ask(0, 4), NONE);
        due("waits(0, 2)", x.waits(0, 2), false);
        dueReceived(x, 0, 1, REQUEST);
        answerAndReceive(x, 1, 0);
        due("ask(0, 2)", x.ask(0, 2), 1);
    }

    private static void askOfNoSuchOne() {
        for (int n : new int[] {2, 10}) {
            QuietWatch x = allActive(n);
            for (int none : noneOf(n)) {
                due("ask(" + none + ", -1)", x.ask(none, -1), NONE);
            }
            dueCount(x, 6, 0);
        }
    }

    private static void aMaskThatNamesNone() {
        for (int n = 2; n <= 10; n++) {
            QuietWatch x = allActive(n);
            due("ask(0, 0)", x.ask(0, 0), NONE);
            for (int p = 0; p < n; p++) {
                due("ask(" + p + ", its own bit)", x.ask(p, 1 << p), NONE);
            }
            for (int bit = n; bit < 32; bit++) {
                due("ask(0, bit " + bit + ")", x.ask(0, 1 << bit), NONE);
                due("ask(1, bit " + bit + " and its own)", x.ask(1, 1 << bit | 2), NONE);
            }
            due("ask(0, all those of none)", x.ask(0, -1 << n), NONE);
            dueCount(x, 6, 0);
            dueTold(x, 0, 1, 0);
        }
    }

    private static void eachBitOfAMask() {
        for (int p = 0; p < 10; p++) {
            for (int q = 0; q < 10; q++) {
                QuietWatch x = allActive(10);
                due("ask(" + p + ", bit " + q + ")", x.ask(p, 1 << q), p == q ? NONE : 1);
                for (int r = 0; r < 10; r++) {
                    due("waits(" + p + ", " + r + ")", x.waits(p, r), r == q && p != q);
                }
                dueCount(x, 6, p == q ? 0 : 1);
            }
        }
    }

    private static void aMaskOfAllBits() {
        for (int n = 2; n <= 10; n++) {
            for (int p : new int[] {0, 1, n - 1}) {
                QuietWatch x = allActive(n);
                due("ask(" + p + ", -1)", x.ask(p, -1), n - 1);
                due("waits for itself", x.waits(p, p), false);
                dueTold(x, p, 8, n - 1);
                dueCount(x, 6, n - 1);
            }
        }
    }

    // Promise 6

    private static void answerOfARequestUnderWay() {
        QuietWatch x = started(2);
        due("ask(0, 2)", x.ask(0, 2), 1);
        due("answer(1, 0)", x.answer(1, 0), false);
        dueReceived(x, 0, 1, REQUEST);
        due("answer(1, 0)", x.answer(1, 0), true);
        due("answer(1, 0)", x.answer(1, 0), false);
        dueRow(x, 1, 0, REPLY);
    }

    private static void answerWithNoSuchOne() {
        for (int n : new int[] {2, 10}) {
            QuietWatch x = started(n);
            askAndReceive(x, 0, 1 << n - 1);
            for (int none : noneOf(n)) {
                due("answer(" + none + ", 0)", x.answer(none, 0), false);
                due("answer(" + (n - 1) + ", " + none + ")", x.answer(n - 1, none), false);
                due("answer(" + none + ", " + none + ")", x.answer(none, none), false);
            }
            due("answer(" + (n - 1) + ", 0)", x.answer(n - 1, 0), true);
        }
    }

    private static void answerWhereNoneIsPending() {
        QuietWatch x = allActive(4);
        askAndReceive(x, 1, 0b0100);
        for (int q = 0; q < 4; q++) {
            for (int p = 0; p < 4; p++) {
                if (q != 2 || p != 1) {
                    due("answer(" + q + ", " + p + ")", x.answer(q, p), false);
                }
            }
        }
        due("answer(2, 1)", x.answer(2, 1), true);
    }

    private static void answerOfOneThatIsBlocked() {
        QuietWatch x = allActive(3);
        askAndReceive(x, 1, 0b001);
        askAndReceive(x, 0, 0b100);
        due("answer(0, 1)", x.answer(0, 1), false);
        answerAndReceive(x, 2, 0);
        due("answer(0, 1)", x.answer(0, 1), true);
    }

    private static void answerOfOneThatIsPassive() {
        QuietWatch x = started(2);
        askAndReceive(x, 0, 0b10);
        dueTold(x, 1, 0, 0);
        due("answer(1, 0)", x.answer(1, 0), true);
    }

    // Promise 7

    private static void probeOfOneThatIsNotBlocked() {
        QuietWatch x = new QuietWatch(2);
        due("probe(0)", x.probe(0), NONE);
        due("start()", x.start(), true);
        due("probe(0)", x.probe(0), NONE);
        due("probe(1)", x.probe(1), NONE);
        askAndReceive(x, 0, 0b10);
        due("probe(1)", x.probe(1), NONE);
        due("probe(0)", x.probe(0), 1);
        due("answer(1, 0)", x.answer(1, 0), true);
        due("probe(0)", x.probe(0), 2);
        dueReceived(x, 1, 0, REPLY);
        due("probe(0)", x.probe(0), NONE);
        due("ask(0, 2)", x.ask(0, 2), 1);
        due("probe(0)", x.probe(0), 3);
    }

    private static void probeOfNoSuchOne() {
        for (int n : new int[] {2, 10}) {
            QuietWatch x = allActive(n);
            for (int p = 0; p < n; p++) {
                due("ask(" + p + ", -1)", x.ask(p, -1), n - 1);
            }
            for (int none : noneOf(n)) {
                due("probe(" + none + ")", x.probe(none), NONE);
            }
            for (int p = 0; p < n; p++) {
                due("probe(" + p + ")", x.probe(p), 1);
            }
        }
    }

    private static void fiftyProbings() {
        QuietWatch x = allActive(10);
        due("ask(9, 257)", x.ask(9, 257), 2);
        due("ask(0, 512)", x.ask(0, 512), 1);
        for (int number = 1; number <= 50; number++) {
            due("probe(9)", x.probe(9), number);
            dueProbe(x, 9, 8, number, 9, number);
        }
        dueTold(x, 9, 11, 50);
        dueCount(x, 6, 103);
        due("probe(9)", x.probe(9), NONE);
        due("probe(9)", x.probe(9), NONE);
        dueTold(x, 9, 11, 50);
        dueCount(x, 6, 103);
        due("probe(0)", x.probe(0), 1);
    }

    private static void theFiftiethProbeMatters() {
        QuietWatch x = allActive(3);
        askAndReceive(x, 0, 0b010);
        askAndReceive(x, 1, 0b100);
        askAndReceive(x, 2, 0b001);
        for (int number = 1; number <= 50; number++) {
            due("probe(0)", x.probe(0), number);
            dueReceived(x, 0, 1, PROBE);
            dueProbe(x, 1, 2, 0, 0, number);
            dueReceived(x, 1, 2, PROBE);
            dueReceived(x, 2, 0, PROBE);
        }
        dueTold(x, 0, 10, 50);
        dueCount(x, 9, 50);
        due("falsely()", x.falsely(), 0);
    }

    // Promise 8

    private static void passBeforeStart() {
        QuietWatch x = new QuietWatch(2);
        due("pass(0)", x.pass(0), NONE);
        dueCount(x, 3, 0);
        due("start()", x.start(), true);
        due("rest(0)", x.rest(0), true);
        due("pass(0)", x.pass(0), 1);
    }

    private static void passOfOneThatIsNotPassive() {
        QuietWatch x = started(3);
        due("pass(0)", x.pass(0), NONE);
        askAndReceive(x, 0, 0b010);
        due("pass(0)", x.pass(0), NONE);
        answerAndReceive(x, 1, 0);
        give(x, 0, 2);
        due("rest(0)", x.rest(0), true);
        due("pass(0)", x.pass(0), 1);
        dueReceived(x, 0, 2, TOKEN);
        due("pass(2)", x.pass(2), NONE);
        due("rest(2)", x.rest(2), true);
        due("pass(2)", x.pass(2), 1);
    }

    private static void passOfOneThatHasItNot() {
        QuietWatch x = started(3);
        due("rest(0)", x.rest(0), true);
        due("pass(1)", x.pass(1), NONE);
        due("pass(2)", x.pass(2), NONE);
        due("pass(0)", x.pass(0), 1);
        for (int p = 0; p < 3; p++) {
            due("pass(" + p + ")", x.pass(p), NONE);
        }
        dueReceived(x, 0, 2, TOKEN);
        due("pass(0)", x.pass(0), NONE);
        due("pass(1)", x.pass(1), NONE);
        due("pass(2)", x.pass(2), 1);
        due("pass(2)", x.pass(2), NONE);
    }

    private static void passOfNoSuchOne() {
        for (int n : new int[] {2, 10}) {
            QuietWatch x = started(n);
            due("rest(0)", x.rest(0), true);
            passNone(x, n);
            due("pass(0)", x.pass(0), 1);
            // Nobody has it while it is under way, and -1 is nobody.
            passNone(x, n);
        }
    }

    private static void passNone(QuietWatch x, int n) {
        for (int none : noneOf(n)) {
            due("pass(" + none + ")", x.pass(none), NONE);
        }
    }

    private static void passBehindTheEndOfTheTree() {
        QuietWatch x = started(2);
        due("rest(0)", x.rest(0), true);
        dueCount(x, 1, 1);
        round(x, 2);
        due("pass(0)", x.pass(0), 2);
        due("pass(0)", x.pass(0), NONE);
        due("pass(1)", x.pass(1), NONE);
    }

    // Promise 9

    private static void receiveWhereThereIsNoRow() {
        for (int n : new int[] {2, 10}) {
            QuietWatch x = allActive(n);
            for (int p = 0; p < n; p++) {
                due("send(" + p + ", ..)", x.send(p, (p + 1) % n), true);
                due("receive(" + p + ", " + p + ")", x.receive(p, p), NONE);
            }
            for (int none : noneOf(n)) {
                for (int p : new int[] {0, 1, n - 1}) {
                    due("receive(" + none + ", " + p + ")", x.receive(none, p), NONE);
                    due("receive(" + p + ", " + none + ")", x.receive(p, none), NONE);
                }
                due("receive(" + none + ", " + none + ")", x.receive(none, none), NONE);
            }
            dueCount(x, 6, n);
            dueCount(x, 8, n - 1);
        }
    }

    /** The row of p to q may be kept at p * n + q: numbers that lead there in another way are none. */
    private static void receiveBesideTheRow() {
        QuietWatch x = started(3);
        due("send(0, 2)", x.send(0, 2), true);
        due("receive(-1, 5)", x.receive(-1, 5), NONE);
        due("receive(1, -1)", x.receive(1, -1), NONE);
        due("receive(2, -4)", x.receive(2, -4), NONE);
        dueReceived(x, 0, 2, WORK);
    }

    private static void receiveFromAnEmptyRow() {
        QuietWatch x = started(2);
        due("receive(0, 1)", x.receive(0, 1), NONE);
        due("send(0, 1)", x.send(0, 1), true);
        due("receive(1, 0)", x.receive(1, 0), NONE);
        dueReceived(x, 0, 1, WORK);
        due("receive(0, 1)", x.receive(0, 1), NONE);
        dueCount(x, 8, 1);
    }

    private static void eachKindIsAnswered() {
        QuietWatch x = allActive(2);
        give(x, 0, 1);
        dueReceived(x, 1, 0, ACK);
        askAndReceive(x, 1, 0b01);
        due("probe(1)", x.probe(1), 1);
        dueReceived(x, 1, 0, PROBE);
        answerAndReceive(x, 0, 1);
        due("rest(0)", x.rest(0), true);
        due("pass(0)", x.pass(0), 1);
        dueReceived(x, 0, 1, TOKEN);
        dueCount(x, 8, 7);
    }

    // Promise 10

    /** All wait for all: each ROW has one REQUEST, and nobody can PASS. */
    private static QuietWatch allAskAll(int n) {
        QuietWatch x = allActive(n);
        for (int p = 0; p < n; p++) {
            due("ask(" + p + ", -1)", x.ask(p, -1), n - 1);
        }
        return x;
    }

    private static void dueTurn(int n, int seed, int p, int q) {
        QuietWatch x = allAskAll(n);
        due("run(1, " + seed + ")", x.run(1, seed), p == q ? 0 : 1);
        for (int a = 0; a < n; a++) {
            for (int b = 0; b < n; b++) {
                boolean left = a != b && (a != p || b != q);
                String call = "with " + n + ", behind run(1, " + seed + "): message(" + a + ", " + b + ", 0, 0)";
                due(call, x.message(a, b, 0, 0), left ? REQUEST : NONE);
            }
        }
    }

    private static void dueTurns(int n, int[][] seedsAndRows) {
        for (int[] one : seedsAndRows) {
            dueTurn(n, one[0], one[1], one[2]);
        }
    }

    /** Seed 1 becomes 1103527590, which is 16838 shifted: 8 modulo 9, so 2 to 2. */
    private static void theSeedIsDrawnBeforeItIsUsed() {
        dueTurns(2, new int[][] {{0, 0, 0}, {1, 1, 0}});
        dueTurns(3, new int[][] {{0, 0, 0}, {1, 2, 2}, {317574981, 0, 1}, {1038467225, 1, 2}, {1235826598, 2, 0}});
        dueTurns(7, new int[][] {{1, 4, 3}, {1898563782, 5, 0}});
        dueTurns(10, new int[][] {{0, 0, 0}, {1, 3, 8}, {1276578865, 5, 3}, {1544875351, 4, 7}});
    }

    /** Seed 4 becomes 4414073325, which is 119106029 in 32 bits. */
    private static void theSeedWraps() {
        dueTurns(2, new int[][] {{4, 0, 1}, {-2, 1, 1}, {HIGHEST, 0, 1}});
        dueTurns(3, new int[][] {{4, 2, 2}, {-2, 2, 2}, {HIGHEST, 2, 2}, {-1088461400, 0, 2}});
        dueTurns(7, new int[][] {{4, 0, 4}, {-2, 1, 2}, {HIGHEST, 0, 4}, {-1303429503, 0, 6}});
        dueTurns(10, new int[][] {{4, 1, 7}, {-2, 5, 9}, {HIGHEST, 2, 9}});
    }

    /** Seed 2 becomes 2207042835, whose highest bit is 1: it is 33676 shifted, and not -31860. */
    private static void theSeedIsShiftedWithoutSign() {
        dueTurns(2, new int[][] {{2, 0, 0}, {3, 1, 1}, {6, 1, 0}, {-1, 0, 1}, {LOWEST, 0, 0}});
        dueTurns(3, new int[][] {{2, 2, 1}, {3, 2, 1}, {-1, 2, 1}, {LOWEST, 2, 2}, {187951464, 1, 0}});
        dueTurns(7, new int[][] {{2, 1, 6}, {3, 6, 3}, {-1, 5, 5}, {LOWEST, 5, 1}, {106093520, 3, 1}});
        dueTurns(10, new int[][] {{2, 7, 6}, {3, 1, 5}, {-1, 9, 7}, {LOWEST, 6, 8}, {1183705949, 0, 1}});
    }

    /** Seed 7 draws 2 to 0, 1 to 2, 1 to 2 again, 1 to 0: the third ROW has none any more. */
    private static void onlyWhatWasDoneCounts() {
        int[] wants = {0, 1, 2, 2, 3};
        for (int n = 0; n < wants.length; n++) {
            QuietWatch x = allAskAll(3);
            due("run(" + n + ", 7)", x.run(n, 7), wants[n]);
            dueCount(x, 8, 2 + wants[n]);
            dueCount(x, 6, 6 - wants[n]);
        }
        due("run(2000, 1) of a new one", new QuietWatch(10).run(2000, 1), 0);
    }

    /** Seeds 0, -2 and 3 draw 0 to 0, 1 to 1 and 1 to 1 with two processes. */
    private static void whoIsDrawnTwicePasses() {
        QuietWatch x = new QuietWatch(2);
        due("run(1, 0)", x.run(1, 0), 0);
        due("start()", x.start(), true);
        due("run(1, 0)", x.run(1, 0), 0);
        due("rest(0)", x.rest(0), true);
        due("run(1, 3)", x.run(1, 3), 0);
        due("run(1, 0)", x.run(1, 0), 1);
        dueRow(x, 0, 1, TOKEN);
        due("run(1, 0)", x.run(1, 0), 0);
        dueReceived(x, 0, 1, TOKEN);
        due("run(1, -2)", x.run(1, -2), 1);
        dueReceived(x, 1, 0, TOKEN);
        due("run(1, 0)", x.run(1, 0), 1);
        dueCount(x, 2, 1);
        due("run(1, 0)", x.run(1, 0), 0);
    }

    private static void noTurnsAtAll() {
        QuietWatch x = started(2);
        due("rest(0)", x.rest(0), true);
        due("run(0, 0)", x.run(0, 0), 0);
        dueTold(x, 0, 7, 1);
        due("run(1, 0)", x.run(1, 0), 1);
        dueTold(x, 0, 7, 0);
    }

    /** Of 0's fifty PROBES, which nobody needs, each ROW keeps some longer than any run. */
    private static QuietWatch longRows() {
        QuietWatch x = started(10);
        due("ask(0, -1)", x.ask(0, -1), 9);
        for (int number = 1; number <= 50; number++) {
            due("probe(0)", x.probe(0), number);
        }
        return x;
    }

    /** Seed 13 draws a ROW of 0 in the turns 2000 and 2001, but not in turn 1999. */
    private static void twoThousandTurns() {
        int[][] wants = {{1998, 174}, {1999, 174}, {2000, 175}};
        for (int[] one : wants) {
            QuietWatch x = longRows();
            due("run(" + one[0] + ", 13)", x.run(one[0], 13), one[1]);
            dueCount(x, 8, one[1]);
        }
    }

    private static void anotherNumberOfTurns() {
        QuietWatch x = longRows();
        for (int n : new int[] {2001, 2002, 4000, 65536, HIGHEST, -1, -2, -2000, LOWEST, LOWEST + 1}) {
            due("run(" + n + ", 13)", x.run(n, 13), NONE);
        }
        dueCount(x, 8, 0);
        dueCount(x, 6, 459);
    }

    // Promise 11

    /** A MESSAGE of each KIND is under way, and one was told to be DEAD. */
    private static QuietWatch ofEachKind() {
        QuietWatch x = allActive(4);
        give(x, 0, 1);
        due("send(0, 3)", x.send(0, 3), true);
        due("rest(0)", x.rest(0), true);
        due("pass(0)", x.pass(0), 1);
        due("ask(1, 12)", x.ask(1, 12), 2);
        dueReceived(x, 1, 2, REQUEST);
        askAndReceive(x, 3, 0b0100);
        due("answer(2, 3)", x.answer(2, 3), true);
        askAndReceive(x, 2, 0b0010);
        due("probe(1)", x.probe(1), 1);
        dueReceived(x, 1, 2, PROBE);
        dueReceived(x, 2, 1, PROBE);
        due("probe(2)", x.probe(2), 1);
        return x;
    }

    private static void allThatIsTold() {
        int[][] wants = {
            {0, 0, 1, NONE, 5, 5, 0, 0, 0, 0, 0, 0},
            {1, 1, 1, 0, 0, -2, 1, 0, 2, 1, 1, 1},
            {1, 1, 1, 0, 0, -1, 1, 0, 1, 1, 0, 1},
            {1, 1, 1, 0, 0, -1, 1, 0, 1, 0, 0, 0},
        };
        QuietWatch x = ofEachKind();
        for (int p = 0; p < wants.length; p++) {
            for (int what = 0; what < wants[p].length; what++) {
                dueTold(x, p, what, wants[p][what]);
            }
        }
    }

    private static void toldOfOthers() {
        QuietWatch x = ofEachKind();
        for (int p = 0; p < 4; p++) {
            for (int what : new int[] {-1, -2, 12, 13, 16, 32, 256, 65536, LOWEST, HIGHEST}) {
                dueTold(x, p, what, NONE);
            }
        }
        dueTold(x, 1, 0, 1);
        dueTold(x, 1, 11, 1);
    }

    private static void toldOfNoSuchOne() {
        QuietWatch x = ofEachKind();
        for (int none : noneOf(4)) {
            for (int what = -1; what <= 12; what++) {
                dueTold(x, none, what, NONE);
            }
        }
        dueTold(x, 3, 0, 1);
    }

    private static void theTokenUnderWayIsNobodys() {
        QuietWatch x = ofEachKind();
        for (int none : noneOf(4)) {
            dueTold(x, none, 7, NONE);
        }
        dueRow(x, 0, 3, WORK, TOKEN);
        dueReceived(x, 0, 3, WORK, TOKEN);
        dueTold(x, 3, 7, 1);
    }

    // Promise 12

    private static void waitsOfNoSuchOne() {
        for (int n : new int[] {2, 10}) {
            QuietWatch x = allAskAll(n);
            for (int none : noneOf(n)) {
                due("waits(0, " + none + ")", x.waits(0, none), false);
                due("waits(1, " + none + ")", x.waits(1, none), false);
                due("waits(" + none + ", 0)", x.waits(none, 0), false);
                due("waits(" + none + ", 1)", x.waits(none, 1), false);
                due("waits(" + none + ", " + none + ")", x.waits(none, none), false);
            }
            due("waits(0, " + (n - 1) + ")", x.waits(0, n - 1), true);
            due("waits(" + (n - 1) + ", 0)", x.waits(n - 1, 0), true);
        }
    }

    private static void waitsForItselfOrTheOtherWay() {
        QuietWatch x = started(3);
        due("waits(0, 1)", x.waits(0, 1), false);
        askAndReceive(x, 0, 0b110);
        for (int p = 0; p < 3; p++) {
            for (int q = 0; q < 3; q++) {
                due("waits(" + p + ", " + q + ")", x.waits(p, q), p == 0 && q != 0);
            }
        }
    }

    // Promise 13

    private static void theLastOfARow() {
        QuietWatch x = started(2);
        due("message(0, 1, 0, 0)", x.message(0, 1, 0, 0), NONE);
        sendAll(x, 0, 1, 20);
        for (int left = 20; left > 0; left--) {
            for (int i : new int[] {0, left - 1}) {
                due("message(0, 1, " + i + ", 0)", x.message(0, 1, i, 0), WORK);
            }
            for (int i : new int[] {left, left + 1, -1, -2, HIGHEST, LOWEST, LOWEST + left}) {
                due("message(0, 1, " + i + ", 0)", x.message(0, 1, i, 0), NONE);
            }
            dueReceived(x, 0, 1, WORK);
        }
        due("message(0, 1, 0, 0)", x.message(0, 1, 0, 0), NONE);
    }

    private static void whoBeganItIsOfAProbeAlone() {
        QuietWatch x = ofEachKind();
        int[][] places = {{0, 3, 0, WORK}, {1, 0, 0, ACK}, {0, 3, 1, TOKEN}, {1, 3, 0, REQUEST}, {2, 3, 0, REPLY}};
        for (int[] at : places) {
            due("the KIND", x.message(at[0], at[1], at[2], 0), at[3]);
            due("who began a KIND " + at[3], x.message(at[0], at[1], at[2], 1), NONE);
            due("the number of a KIND " + at[3], x.message(at[0], at[1], at[2], 2), NONE);
        }
        dueProbe(x, 1, 3, 1, 1, 1);
        dueProbe(x, 2, 1, 0, 2, 1);
    }

    private static void messageOfAnotherWhat() {
        QuietWatch x = ofEachKind();
        for (int what : new int[] {-1, -2, 3, 4, 256, 65536, LOWEST, HIGHEST}) {
            due("message(0, 3, 0, " + what + ")", x.message(0, 3, 0, what), NONE);
            due("message(2, 1, 0, " + what + ")", x.message(2, 1, 0, what), NONE);
        }
    }

    private static void messageWhereThereIsNoRow() {
        QuietWatch x = ofEachKind();
        for (int none : noneOf(4)) {
            for (int p = 0; p < 4; p++) {
                due("message(" + none + ", " + p + ", 0, 0)", x.message(none, p, 0, 0), NONE);
                due("message(" + p + ", " + none + ", 0, 0)", x.message(p, none, 0, 0), NONE);
            }
        }
        for (int p = 0; p < 4; p++) {
            for (int what = 0; what < 3; what++) {
                due("message(" + p + ", " + p + ", 0, " + what + ")", x.message(p, p, 0, what), NONE);
            }
        }
        // 0 to 3 may be kept at place 3, and 2 to 1 at place 9.
        due("message(-1, 7, 0, 0)", x.message(-1, 7, 0, 0), NONE);
        due("message(1, -1, 0, 0)", x.message(1, -1, 0, 0), NONE);
        due("message(1, 5, 0, 0)", x.message(1, 5, 0, 0), NONE);
    }

    // Promise 14

    private static void quietWithOneActive() {
        for (int only = 0; only < 10; only++) {
            QuietWatch x = allActive(10);
            for (int p = 0; p < 10; p++) {
                due("quiet()", x.quiet(), false);
                due("rest(" + p + ")", p == only || x.rest(p), true);
            }
            dueCount(x, 7, 0);
            due("quiet()", x.quiet(), false);
            due("rest(" + only + ")", x.rest(only), true);
            due("quiet()", x.quiet(), true);
        }
    }

    private static void quietWithOneWorkUnderWay() {
        for (int p = 0; p < 10; p++) {
            for (int q = 0; q < 10; q++) {
                if (p != q) {
                    quietWithOneWorkUnderWay(p, q);
                }
            }
        }
    }

    private static void quietWithOneWorkUnderWay(int p, int q) {
        QuietWatch x = allActive(10);
        due("send(" + p + ", " + q + ")", x.send(p, q), true);
        for (int r = 0; r < 10; r++) {
            due("rest(" + r + ")", x.rest(r), true);
        }
        due("quiet()", x.quiet(), false);
        dueReceived(x, p, q, WORK);
        due("quiet()", x.quiet(), false);
        due("rest(" + q + ")", x.rest(q), true);
        due("quiet()", x.quiet(), true);
    }

    private static void quietWithOtherKindsUnderWay() {
        QuietWatch x = new QuietWatch(3);
        due("quiet()", x.quiet(), true);
        due("start()", x.start(), true);
        give(x, 0, 1);
        askAndReceive(x, 0, 0b100);
        due("probe(0)", x.probe(0), 1);
        answerAndReceive(x, 2, 0);
        due("rest(0)", x.rest(0), true);
        due("quiet()", x.quiet(), false);
        due("rest(1)", x.rest(1), true);
        due("pass(0)", x.pass(0), 1);
        dueRow(x, 0, 2, PROBE, TOKEN);
        dueRow(x, 1, 0, ACK);
        due("quiet()", x.quiet(), true);
        dueCount(x, 1, 0);
    }

    private static void quietWithABlockedOne() {
        QuietWatch x = started(2);
        askAndReceive(x, 0, 0b10);
        due("quiet()", x.quiet(), false);
    }

    // Promises 15 and 16

    private static void noEndIsToldWrongly() {
        QuietWatch x = allActive(3);
        due("wrong()", x.wrong(), 0);
        due("rest(0)", x.rest(0), true);
        due("pass(0)", x.pass(0), 1);
        due("run(2000, 1)", x.run(2000, 1) > 0, true);
        due("rest(1)", x.rest(1), true);
        due("run(2000, 1)", x.run(2000, 1) > 0, true);
        dueCount(x, 1, 0);
        dueCount(x, 2, 0);
        due("rest(2)", x.rest(2), true);
        due("run(2000, 1)", x.run(2000, 1) > 0, true);
        dueCount(x, 1, 1);
        dueCount(x, 2, 1);
        due("wrong()", x.wrong(), 0);
    }

    private static void theShortestAndTheLongestRing() {
        for (int n = 2; n <= 10; n++) {
            for (int begins = 0; begins < n; begins++) {
                aRing(n, 1, begins);
                aRing(n, n - 1, begins);
            }
        }
    }

    /** Each waits for the one so many numbers further. */
    private static void aRing(int n, int further, int begins) {
        QuietWatch x = allActive(n);
        for (int p = 0; p < n; p++) {
            askAndReceive(x, p, 1 << (p + further) % n);
        }
        due("probe(" + begins + ")", x.probe(begins), 1);
        int p = begins;
        for (int step = 0; step < n; step++) {
            dueCount(x, 9, 0);
            dueReceived(x, p, (p + further) % n, PROBE);
            p = (p + further) % n;
        }
        dueCount(x, 9, 1);
        dueTold(x, begins, 10, 1);
        due("falsely()", x.falsely(), 0);
    }

    /** A REPLY that was received is not under way when the same two wait for each other later. */
    private static void aRingBehindReplies() {
        QuietWatch x = allActive(2);
        askAndReceive(x, 0, 0b10);
        answerAndReceive(x, 1, 0);
        askAndReceive(x, 1, 0b01);
        answerAndReceive(x, 0, 1);
        askAndReceive(x, 0, 0b10);
        askAndReceive(x, 1, 0b01);
        due("answer(0, 1)", x.answer(0, 1), false);
        due("answer(1, 0)", x.answer(1, 0), false);
        for (int p = 0; p < 2; p++) {
            due("probe(" + p + ")", x.probe(p), 1);
            dueReceived(x, p, 1 - p, PROBE);
            dueReceived(x, 1 - p, p, PROBE);
            dueTold(x, p, 10, 1);
        }
        due("falsely()", x.falsely(), 0);
    }

    private static void aRingThatOneLeft() {
        QuietWatch x = allActive(3);
        // 0 waits for 1, 1 for 2 and 2 for 0; but 2 asks only behind the PROBE, and 1 is answered before that.
        askAndReceive(x, 0, 0b010);
        askAndReceive(x, 1, 0b100);
        due("probe(0)", x.probe(0), 1);
        dueReceived(x, 0, 1, PROBE);
        due("answer(2, 1)", x.answer(2, 1), true);
        askAndReceive(x, 2, 0b001);
        dueReceived(x, 1, 2, PROBE);
        dueRow(x, 2, 0);
        dueCount(x, 9, 0);
        due("falsely()", x.falsely(), 0);
    }

    // Promise 17

    private static void allThatIsCounted() {
        int[] wants = {4, 0, 0, 1, 0, 0, 7, 1, 9, 1};
        QuietWatch x = ofEachKind();
        for (int what = 0; what < wants.length; what++) {
            dueCount(x, what, wants[what]);
        }
        dueReceived(x, 2, 1, PROBE);
        dueCount(x, 6, 8);
        dueCount(x, 8, 10);
    }

    private static void countOfOthers() {
        QuietWatch x = ofEachKind();
        for (int what : new int[] {-1, -2, 10, 11, 16, 32, 256, 65536, LOWEST, HIGHEST}) {
            dueCount(x, what, NONE);
        }
        dueCount(x, 0, 4);
        dueCount(x, 9, 1);
    }

    private static void theTerms() {
        test("by numbers from 0 on", EdgeTest::numbersFromZeroOn);
        test("BLOCKED as long as it WAITS for others", EdgeTest::blockedAsLongAsItWaits);
        test("From each to each other one there is a ROW", EdgeTest::aRowFromEachToEachOther);
        test("the first of which can be received", EdgeTest::theFirstOfARowIsReceived);
        test("one behind the other", EdgeTest::oneBehindTheOther);
        test("of the ROOT none always", EdgeTest::theRootNeverHasAParent);
        test("from start() on until the tree tells the end", EdgeTest::theRootIsInTheTreeFromStartOn);
        test("another one as long as it has a PARENT", EdgeTest::anotherIsInTheTreeAsLongAsItHasAParent);
        test("if it isn't IN THE TREE, the sender is its PARENT", EdgeTest::workForOneThatIsNotInTheTree);
        test("else an ACK goes back to the sender", EdgeTest::workForOneThatIsInTheTree);
        test("To receive an ACK: OWED is 1 less", EdgeTest::anAckMakesOwedOneLess);
        test("PASSIVE and OWED nothing: one is OWED", EdgeTest::passiveButOwedOneStays);
        test("PASSIVE and OWED nothing: it is ACTIVE", EdgeTest::activeButOwedNothingStays);
        test("another one sends its PARENT an ACK, and has none", EdgeTest::theAckGoesToTheParent);
        test("the ROOT tells the end, by an ACK", EdgeTest::theRootTellsTheEndByAnAck);
        test("the ROOT tells the end, by rest", EdgeTest::theRootTellsTheEndByRest);
        test("behind what a call does, in run", EdgeTest::behindATurnOfRun);
        test("0 at first, WHITE at first, the ROOT has the TOKEN at first", EdgeTest::theRingAtFirst);
        test("if a round is under way: none is", EdgeTest::noRoundIsUnderWayAtFirst);
        test("sent to the PROCESS of the highest number, sent to p - 1", EdgeTest::theTokenGoesToTheNextLower);
        test("who receives it has it", EdgeTest::whoReceivesTheTokenHasIt);
        test("WORKS sent less WORKS received", EdgeTest::theCountOfEach);
        test("to receive WORK makes it BLACK", EdgeTest::onlyWorkMakesBlack);
        test("that the TOKEN is WHITE in: it is BLACK", EdgeTest::aBlackTokenIsNoEnd);
        test("the TOKEN is BLACK if p is", EdgeTest::theTokenStaysBlackPastAWhiteOne);
        test("a new round: the TOKEN is WHITE, SUM 0", EdgeTest::aNewRoundIsWhiteWithSumZero);
        test("SUM and its COUNT together are 0: they are 1", EdgeTest::oneWorkUnderWayIsNoEnd);
        test("the ROOT is WHITE: it is BLACK", EdgeTest::aBlackRootIsNoEnd);
        test("the TOKEN goes no more", EdgeTest::theTokenGoesNoMore);
        test("it tells the end (by the RING), before the TREE does", EdgeTest::theRingTellsBeforeTheTree);
        test("Who receives a REQUEST has it PENDING", EdgeTest::whoReceivesARequestHasItPending);
        test("it WAITS for that one no more", EdgeTest::aReplyEndsTheWaitForThatOneAlone);
        test("it matters if k is BLOCKED: it isn't", EdgeTest::aProbeForOneThatIsNotBlocked);
        test("and j's REQUEST is PENDING there: it isn't", EdgeTest::aProbeWhereNoRequestIsPending);
        test("and j's REQUEST is PENDING there: it isn't, and k is i", EdgeTest::ownProbeWhereNoRequestIsPending);
        test("greater than that of any PROBE: the same", EdgeTest::aProbeOfTheSameNumber);
        test("greater than that of any PROBE: less", EdgeTest::aProbeOfALesserNumber);
        test("any PROBE of i: another's", EdgeTest::aProbeOfAnotherBeginner);
        test("any PROBE of i: each beginner has its own", EdgeTest::theNumbersOfEachBeginner);
        test("any PROBE that mattered: it didn't", EdgeTest::aProbeThatDidNotMatterBefore);
        test("goes to each for which k WAITS", EdgeTest::aProbeGoesToEachThatIsWaitedFor);
        test("one is in a RING of those that WAIT", EdgeTest::whoWaitsForARingIsNotInIt);
        test("if k is i, it is told to be DEAD", EdgeTest::ownProbeIsNotSentOn);
        test("if k is i, it is told to be DEAD, each time", EdgeTest::deadAsOftenAsItIsTold);
    }

    private static void promisesOneToSeven() {
        test("2 .. 10; the nearest of these is 2", EdgeTest::fewerThanTwoAreTwo);
        test("2 .. 10; the nearest of these is 10", EdgeTest::moreThanTenAreTen);
        test("2 .. 10", EdgeTest::allBetweenAreThemselves);
        test("start: false if that was before", EdgeTest::startIsOnce);
        test("start: false behind rest and the end", EdgeTest::startWhenTheRootIsPassiveAgain);
        test("send: p, ACTIVE", EdgeTest::sendOfOneThatIsNotActive);
        test("send: and not BLOCKED", EdgeTest::sendOfOneThatIsBlocked);
        test("send: no such one, or q is none", EdgeTest::sendWithNoSuchOne);
        test("send: q is p", EdgeTest::sendToItself);
        test("send: twenty WORKS are in that ROW", EdgeTest::twentyWorksInARow);
        test("send: twenty, but no WORKS, are in that ROW", EdgeTest::twentyOtherMessagesInARow);
        test("send: twenty WORKS, again and again", EdgeTest::aRowUsedAgainAndAgain);
        test("send: p is OWED a hundred", EdgeTest::owedAHundred);
        test("send: another than the ROOT is OWED a hundred", EdgeTest::owedAHundredOfAnother);
        test("send: OWED, and not COUNT", EdgeTest::aCountOfAHundredIsNotOwed);
        test("rest: ACTIVE", EdgeTest::restOfOneThatIsNotActive);
        test("rest: and not BLOCKED", EdgeTest::restOfOneThatIsBlocked);
        test("rest: none such", EdgeTest::restOfNoSuchOne);
        test("ask: not ACTIVE", EdgeTest::askBeforeStart);
        test("ask: is BLOCKED", EdgeTest::askOfOneThatIsBlocked);
        test("ask: p is none", EdgeTest::askOfNoSuchOne);
        test("ask: it would ask none", EdgeTest::aMaskThatNamesNone);
        test("ask: all q for which bit q is 1", EdgeTest::eachBitOfAMask);
        test("ask: its own, and those of none, count nothing", EdgeTest::aMaskOfAllBits);
        test("answer: PENDING, once", EdgeTest::answerOfARequestUnderWay);
        test("answer: none such", EdgeTest::answerWithNoSuchOne);
        test("answer: none of p is PENDING", EdgeTest::answerWhereNoneIsPending);
        test("answer: q is BLOCKED", EdgeTest::answerOfOneThatIsBlocked);
        test("answer: q is PASSIVE", EdgeTest::answerOfOneThatIsPassive);
        test("probe: not BLOCKED", EdgeTest::probeOfOneThatIsNotBlocked);
        test("probe: p is none", EdgeTest::probeOfNoSuchOne);
        test("probe: it began fifty", EdgeTest::fiftyProbings);
        test("probe: the fiftieth matters", EdgeTest::theFiftiethProbeMatters);
    }

    private static void promisesEightToSeventeen() {
        test("pass: start() wasn't", EdgeTest::passBeforeStart);
        test("pass: isn't PASSIVE", EdgeTest::passOfOneThatIsNotPassive);
        test("pass: hasn't it", EdgeTest::passOfOneThatHasItNot);
        test("pass: p is none", EdgeTest::passOfNoSuchOne);
        test("pass: the RING told the end before", EdgeTest::passBehindTheEndOfTheTree);
        test("receive: no such ROW", EdgeTest::receiveWhereThereIsNoRow);
        test("receive: no such ROW, beside one", EdgeTest::receiveBesideTheRow);
        test("receive: it has none", EdgeTest::receiveFromAnEmptyRow);
        test("receive: its KIND", EdgeTest::eachKindIsAnswered);
        test("run: seed becomes seed * 1103515245 + 12345", EdgeTest::theSeedIsDrawnBeforeItIsUsed);
        test("run: 32 bits, it wraps", EdgeTest::theSeedWraps);
        test("run: shifted right by 16, without sign", EdgeTest::theSeedIsShiftedWithoutSign);
        test("run: How many times something was done", EdgeTest::onlyWhatWasDoneCounts);
        test("run: if p is q, p PASSES the TOKEN", EdgeTest::whoIsDrawnTwicePasses);
        test("run: 0 ..", EdgeTest::noTurnsAtAll);
        test("run: .. 2000", EdgeTest::twoThousandTurns);
        test("run: NONE for another n", EdgeTest::anotherNumberOfTurns);
        test("told: 0 to 11", EdgeTest::allThatIsTold);
        test("told: NONE for others", EdgeTest::toldOfOthers);
        test("told: no such one", EdgeTest::toldOfNoSuchOne);
        test("told: 7 while the TOKEN is under way", EdgeTest::theTokenUnderWayIsNobodys);
        test("waits: one is none", EdgeTest::waitsOfNoSuchOne);
        test("waits: p for q", EdgeTest::waitsForItselfOrTheOtherWay);
        test("message: the i-th (from 0 on), none such", EdgeTest::theLastOfARow);
        test("message: both of a PROBE alone", EdgeTest::whoBeganItIsOfAProbeAlone);
        test("message: another what", EdgeTest::messageOfAnotherWhat);
        test("message: no such ROW", EdgeTest::messageWhereThereIsNoRow);
        test("quiet: all are PASSIVE", EdgeTest::quietWithOneActive);
        test("quiet: no WORK is under way", EdgeTest::quietWithOneWorkUnderWay);
        test("quiet: others may be under way", EdgeTest::quietWithOtherKindsUnderWay);
        test("quiet: a BLOCKED one is not PASSIVE", EdgeTest::quietWithABlockedOne);
        test("wrong", EdgeTest::noEndIsToldWrongly);
        test("falsely: rings of 2 to 10", EdgeTest::theShortestAndTheLongestRing);
        test("falsely: no REPLY is under way", EdgeTest::aRingBehindReplies);
        test("falsely: a ring that one left", EdgeTest::aRingThatOneLeft);
        test("count: 0 to 9", EdgeTest::allThatIsCounted);
        test("count: NONE for others", EdgeTest::countOfOthers);
    }

    public static void main(String[] args) {
        theTerms();
        promisesOneToSeven();
        promisesEightToSeventeen();
        System.out.println(wrong == 0 ? "all answers are as due" : wrong + " answers are not as due");
        if (wrong != 0) {
            System.exit(1);
        }
    }
}
