/**
 * What the tests share: answers that are due, calls that must be refused, and words of code. A test
 * may extend it to have these names at hand.
 */
abstract class Checks {
    static final int END = 0;
    static final int PUSH = 1;
    static final int GET = 2;
    static final int SET = 3;
    static final int ADD = 4;
    static final int SUB = 5;
    static final int MUL = 6;
    static final int DIV = 7;
    static final int LESS = 8;
    static final int SAME = 9;
    static final int JUMP = 10;
    static final int SKIP = 11;
    static final int DUP = 12;
    static final int SWAP = 13;
    static final int DROP = 14;
    static final int LOAD = 15;
    static final int STORE = 16;

    static final int IN = 0;
    static final int OUT = 1;
    static final int NONE = PeriodKernel.NONE;

    static final Class<IndexOutOfBoundsException> INDEX = IndexOutOfBoundsException.class;
    static final Class<IllegalArgumentException> ARGUMENT = IllegalArgumentException.class;
    static final Class<IllegalStateException> STATE = IllegalStateException.class;

    static final int LEAST = Integer.MIN_VALUE;
    static final int GREATEST = Integer.MAX_VALUE;

    private static int wrong;
    private static String sentence = "";

    /** What is printed from now on is told with this sentence of the document. */
    static void tellWith(String quote) {
        sentence = quote.isEmpty() ? "" : "[" + quote + "] ";
    }

    static void isWrong(String what) {
        wrong++;
        System.out.println(sentence + what);
    }

    static void due(String what, long got, long want) {
        if (got != want) {
            isWrong(what + " answered " + got + ", due is " + want);
        }
    }

    static void due(String what, boolean got, boolean want) {
        due(what, got ? 1 : 0, want ? 1 : 0);
    }

    static void refused(String what, Class<? extends RuntimeException> want, Runnable call) {
        String got = "nothing";
        try {
            call.run();
        } catch (RuntimeException e) {
            got = e.getClass().getName();
        }
        if (!got.equals(want.getName())) {
            isWrong(what + " throws " + got + ", due is " + want.getName());
        }
    }

    /** The last line of a test's main method. */
    static void end() {
        System.out.println(wrong == 0 ? "all answers are as due" : wrong + " answers are not as due");
        if (wrong != 0) {
            System.exit(1);
        }
    }

    static int word(int what, int n) {
        return n << 6 | what;
    }

    static void code(PeriodKernel kernel, int task, int... words) {
        for (int word : words) {
            kernel.code(task, word);
        }
    }

    /** Mode 0 of that period with task 0, used once, with that budget and code. */
    static PeriodKernel single(int period, int budget, int... words) {
        PeriodKernel kernel = new PeriodKernel();
        kernel.mode(0, period);
        kernel.use(0, 0, 1);
        kernel.task(0, budget);
        code(kernel, 0, words);
        return kernel;
    }

    static void begin(PeriodKernel kernel) {
        due("start()", kernel.start(), 0);
    }

    /** Runs every job and lets time go on, so many times. */
    static void pass(PeriodKernel kernel, int times) {
        for (int i = 0; i < times; i++) {
            kernel.step(2000);
            kernel.advance();
        }
    }

    static void dueJob(String what, PeriodKernel kernel, int task, int from, int... want) {
        for (int i = 0; i < want.length; i++) {
            due(what + ": job(" + task + ", " + (from + i) + ")", kernel.job(task, from + i), want[i]);
        }
    }

    static void dueEvent(String what, PeriodKernel kernel, int i, int... want) {
        for (int k = 0; k < want.length; k++) {
            due(what + ": event(" + i + ", " + k + ")", kernel.event(i, k), want[k]);
        }
    }

    static void dueAbout(String what, PeriodKernel kernel, int... want) {
        for (int k = 0; k < want.length; k++) {
            due(what + ": about(" + k + ")", kernel.about(k), want[k]);
        }
    }
}
