import java.util.Random;

/**
 * Rule 7 of LANGUAGE.md: no call ever throws or fails to end, for any arguments in any state. What is
 * answered behind the 512th call is free, but that it is answered is not; so this test alone goes on
 * behind it, and looks at no answer there but how long the rows grow, for they must not grow for ever.
 */
public final class NeverThrowsTest {
    private static final int NONE = -1;
    private static final int CALLS_OF_A_LONG_LIFE = 40000;
    private static final int CALLS_OF_A_SHORT_LIFE = 1500;
    private static final int SHORT_LIVES = 60;
    private static final int CALLS_OF_A_MOOD = 700;
    /** 20 WORKS, 100 ACKS, 50 PROBES of each of 10, and one TOKEN, REQUEST and REPLY. */
    private static final int LONGEST_ROW = 20 + 100 + 500 + 3;
    private static final int[] WILD = {
        Integer.MIN_VALUE, Integer.MIN_VALUE + 1, -65536, -33, -32, -31, -2, -1, 10, 11, 31, 32, 33, 63, 64,
        99, 100, 101, 1023, 1024, 1999, 2000, 2001, 65535, 65536, Integer.MAX_VALUE - 1, Integer.MAX_VALUE,
    };

    private final Random random;
    private final int processes;
    /** The ROOT never rests, and each asks higher ones alone: no end and no ring stops all for ever. */
    private final boolean livesOn;
    private final QuietWatch x;
    private String latest = "none";
    private int longest;

    private NeverThrowsTest(int processes, int seed, boolean livesOn) {
        this.random = new Random(seed);
        this.processes = processes;
        this.livesOn = livesOn;
        this.x = new QuietWatch(processes);
    }

    private int argument() {
        return random.nextInt(8) == 0 ? WILD[random.nextInt(WILD.length)] : random.nextInt(processes);
    }

    private int maskFor(int p) {
        int mask = random.nextBoolean() ? random.nextInt() : 1 << argument();
        return livesOn && p >= 0 && p < processes ? mask & -2 << p : mask;
    }

    private int whoRests(int p) {
        return livesOn && p == 0 ? processes - 1 : p;
    }

    /** An answer finds few REQUESTS by chance, and without answers all would wait most of the time. */
    private void answerAll(int q, int last) {
        for (int p = 0; p < processes; p++) {
            x.answer(q, p);
        }
        x.answer(q, last);
    }

    private void look(int a, int b) {
        switch (random.nextInt(7)) {
            case 0: x.told(a, argument()); break;
            case 1: x.waits(a, b); break;
            case 2: x.message(a, b, argument(), argument()); break;
            case 3: x.quiet(); break;
            case 4: x.wrong(); break;
            case 5: x.falsely(); break;
            default: x.count(a); break;
        }
    }

    private int turns(boolean receivesFew) {
        return random.nextInt(4) == 0 ? argument() : receivesFew ? 3 : 100;
    }

    /** Few are received in every other mood, so that the rows grow as long as they can. */
    private void call(boolean receivesFew) {
        int a = argument();
        int b = argument();
        int kind = random.nextInt(receivesFew ? 13 : 20);
        latest = "call " + kind + " with " + a + ", " + b;
        switch (kind) {
            case 0: x.start(); break;
            case 1: x.rest(whoRests(a)); break;
            case 2: x.ask(a, maskFor(a)); break;
            case 3: answerAll(a, b); break;
            case 4: x.probe(a); break;
            case 5: x.pass(a); break;
            case 6: x.run(turns(receivesFew), random.nextInt()); break;
            case 7: look(a, b); break;
            case 8, 9, 10: x.send(a, b); break;
            default: x.receive(a, b); break;
        }
    }

    private void measureRows() {
        for (int p = 0; p < processes; p++) {
            for (int q = 0; q < processes; q++) {
                while (x.message(p, q, longest, 0) != NONE) {
                    longest++;
                }
            }
        }
    }

    private boolean holds(int calls) {
        try {
            for (int i = 0; i < calls; i++) {
                call(i / CALLS_OF_A_MOOD % 2 == 0);
                if (i % CALLS_OF_A_MOOD == 0) {
                    measureRows();
                }
            }
        } catch (RuntimeException thrown) {
            System.out.println("with " + processes + " processes: " + latest + " threw " + thrown);
            return false;
        }
        if (longest > LONGEST_ROW) {
            System.out.println("with " + processes + " processes a row had " + longest + " messages");
        }
        return longest <= LONGEST_ROW;
    }

    /** All wait for all and probe as often as they may, and nothing that comes of it is left out. */
    private static boolean theLongestRowsHold() {
        NeverThrowsTest full = new NeverThrowsTest(10, 0, false);
        QuietWatch x = full.x;
        x.start();
        for (int q = 1; q < 10; q++) {
            x.send(0, q);
            x.receive(0, q);
        }
        for (int p = 0; p < 10; p++) {
            x.ask(p, -1);
        }
        x.run(2000, 1);
        for (int i = 0; i < 50; i++) {
            for (int p = 0; p < 10; p++) {
                x.probe(p);
            }
        }
        // 9 receives from nobody, so that all PROBES for it stay in their rows.
        for (int i = 0; i < 1000; i++) {
            for (int row = 0; row < 90; row++) {
                x.receive(row / 9, row % 9);
            }
        }
        full.measureRows();
        if (full.longest != 500) {
            System.out.println("the longest row has " + full.longest + " probes, due are 500");
        }
        return full.longest == 500;
    }

    public static void main(String[] args) {
        boolean holds = theLongestRowsHold();
        for (int processes = 2; processes <= 10; processes++) {
            holds &= new NeverThrowsTest(processes, 0, true).holds(CALLS_OF_A_LONG_LIFE);
            for (int seed = 1; seed <= SHORT_LIVES; seed++) {
                holds &= new NeverThrowsTest(processes, seed, false).holds(CALLS_OF_A_SHORT_LIFE);
            }
        }
        System.out.println(holds ? "no call threw" : "a call threw, or a row grew too long");
        if (!holds) {
            System.exit(1);
        }
    }
}
