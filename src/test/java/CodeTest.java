/** Promises 13 and 19: what each word of code does, step by step, and what a job tells of itself. */
public final class CodeTest {
    public static void main(String[] args) {
        pushes();
        calculates();
        movesOnTheStack();
        jumps();
        skips();
        keepsLocals();
        getsAndSets();
        endsWithEnd();
        endsWithItsLastStep();
        endsWithBoth();
        overrunsInAJump();
        asksBeyond();
        Checks.end();
    }

    /** Runs the words as the whole of a job and answers what is on top when it is done. */
    private static int top(int... words) {
        PeriodKernel kernel = started(words);
        kernel.step(2000);
        Checks.due("jobs not done", kernel.about(4), 0);
        return kernel.job(0, 5);
    }

    private static PeriodKernel started(int... words) {
        PeriodKernel kernel = Checks.single(60, 200, words);
        Checks.due("start()", kernel.start(), 0);
        return kernel;
    }

    private static int both(int what, int left, int right) {
        return top(Checks.word(Checks.PUSH, left), Checks.word(Checks.PUSH, right), what, Checks.END);
    }

    private static void pushes() {
        int greatest = Integer.MAX_VALUE >> 6;
        int least = Integer.MIN_VALUE >> 6;
        for (int n : new int[] {0, 1, -1, 12345, -12345, greatest, least}) {
            Checks.due("PUSH " + n, top(Checks.word(Checks.PUSH, n), Checks.END), n);
        }
    }

    private static void calculates() {
        Checks.due("7 ADD -9", both(Checks.ADD, 7, -9), -2);
        Checks.due("7 SUB 9", both(Checks.SUB, 7, 9), -2);
        Checks.due("7 MUL -9", both(Checks.MUL, 7, -9), -63);
        Checks.due("MUL in ints", both(Checks.MUL, 1 << 20, 1 << 12), 0);
        Checks.due("MUL in ints, with a sign", both(Checks.MUL, 1 << 20, 1 << 11), Integer.MIN_VALUE);
        Checks.due("7 DIV 2", both(Checks.DIV, 7, 2), 3);
        Checks.due("-7 DIV 2", both(Checks.DIV, -7, 2), -3);
        Checks.due("7 DIV -2", both(Checks.DIV, 7, -2), -3);
        Checks.due("-7 DIV -2", both(Checks.DIV, -7, -2), 3);
        Checks.due("7 DIV 0", both(Checks.DIV, 7, 0), 0);
        Checks.due("the least DIV -1", top(Checks.word(Checks.PUSH, 1 << 20), Checks.word(Checks.PUSH, 1 << 11),
                Checks.MUL, Checks.word(Checks.PUSH, -1), Checks.DIV, Checks.END), Integer.MIN_VALUE);
        Checks.due("2 LESS 3", both(Checks.LESS, 2, 3), 1);
        Checks.due("3 LESS 3", both(Checks.LESS, 3, 3), 0);
        Checks.due("3 LESS 2", both(Checks.LESS, 3, 2), 0);
        Checks.due("3 SAME 3", both(Checks.SAME, 3, 3), 1);
        Checks.due("3 SAME 2", both(Checks.SAME, 3, 2), 0);
        Checks.due("ADD beyond ints", top(Checks.word(Checks.PUSH, 1 << 20), Checks.word(Checks.PUSH, 1 << 11),
                Checks.MUL, Checks.word(Checks.PUSH, -1), Checks.ADD, Checks.END), Integer.MAX_VALUE);
    }

    private static void movesOnTheStack() {
        PeriodKernel kernel = started(Checks.word(Checks.PUSH, 3), Checks.word(Checks.PUSH, 4), Checks.SWAP,
                Checks.DUP, Checks.DROP, Checks.DROP, Checks.DROP, Checks.END);
        Checks.dueJob("at first", kernel, 0, 3, 0, 0, 0);
        int[][] want = {{1, 1, 3}, {2, 2, 4}, {3, 2, 3}, {4, 3, 3}, {5, 2, 3}, {6, 1, 4}, {7, 0, 0}, {8, 0, 0}};
        for (int i = 0; i < want.length; i++) {
            Checks.due("pick(0)", kernel.pick(0), true);
            Checks.dueJob("behind step " + i, kernel, 0, 3, want[i]);
        }
        Checks.due("done", kernel.pick(0), false);
        Checks.due("a full stack", top(Checks.word(Checks.PUSH, 5), Checks.DUP, Checks.DUP, Checks.DUP, Checks.DUP,
                Checks.DUP, Checks.DUP, Checks.DUP, Checks.END), 5);
    }

    private static void jumps() {
        Checks.due("JUMP over", top(Checks.word(Checks.JUMP, 2), Checks.END, Checks.word(Checks.PUSH, 6),
                Checks.END), 6);
        Checks.due("JUMP back", top(Checks.word(Checks.JUMP, 3), Checks.word(Checks.PUSH, 8), Checks.END,
                Checks.word(Checks.JUMP, 1)), 8);
    }

    private static void skips() {
        for (int on : new int[] {0, 1, -1}) {
            int got = top(Checks.word(Checks.PUSH, on), Checks.word(Checks.SKIP, 4), Checks.word(Checks.PUSH, 10),
                    Checks.END, Checks.word(Checks.PUSH, 20), Checks.END);
            Checks.due("SKIP with " + on, got, on == 0 ? 20 : 10);
        }
        PeriodKernel kernel = started(Checks.word(Checks.PUSH, 9), Checks.word(Checks.PUSH, 0),
                Checks.word(Checks.SKIP, 3), Checks.END);
        kernel.step(3);
        Checks.dueJob("SKIP takes what is on top", kernel, 0, 3, 3, 1, 9);
    }

    private static void keepsLocals() {
        PeriodKernel kernel = Checks.single(1, 20, Checks.word(Checks.LOAD, 3), Checks.word(Checks.PUSH, 2),
                Checks.ADD, Checks.DUP, Checks.word(Checks.STORE, 3), Checks.word(Checks.STORE, 0), Checks.END);
        Checks.dueJob("at first", kernel, 0, 6, 0, 0, 0, 0);
        Checks.due("start()", kernel.start(), 0);
        for (int i = 1; i <= 3; i++) {
            Checks.due("steps", kernel.step(2000), 7);
            Checks.dueJob("job " + i, kernel, 0, 6, 2 * i, 0, 0, 2 * i);
            Checks.dueJob("job " + i, kernel, 0, 3, 7, 0, 0);
            kernel.advance();
            Checks.dueJob("behind job " + i, kernel, 0, 6, 2 * i, 0, 0, 2 * i);
        }
    }

    private static void getsAndSets() {
        PeriodKernel kernel = Checks.single(2, 20, Checks.word(Checks.GET, 5), Checks.word(Checks.PUSH, 100),
                Checks.ADD, Checks.word(Checks.SET, 0), Checks.word(Checks.GET, 5), Checks.END);
        kernel.port(0, 0, 50, 11);
        kernel.port(1, 0, 50, 22);
        kernel.wire(0, 0, 0, Checks.OUT);
        kernel.wire(0, 5, 1, Checks.IN);
        kernel.sense(0, 1);
        kernel.sensor(0, 33);
        Checks.due("start()", kernel.start(), 0);
        Checks.dueJob("latched and held", kernel, 0, 11, 11, 0, 0, 0, 0, 33);
        kernel.sensor(0, 44);
        kernel.advance();
        Checks.due("the port went on", kernel.value(1), 44);
        Checks.dueJob("still latched", kernel, 0, 11, 11, 0, 0, 0, 0, 33);
        kernel.step(4);
        Checks.dueJob("SET takes what is on top", kernel, 0, 3, 4, 0, 0);
        Checks.dueJob("held beyond its port's range", kernel, 0, 11, 133, 0, 0, 0, 0, 33);
        Checks.due("not published yet", kernel.value(0), 11);
        kernel.step(2);
        Checks.due("GET what was latched", kernel.job(0, 5), 33);
        kernel.advance();
        Checks.due("published at the nearer end", kernel.value(0), 50);
        Checks.dueJob("held from job to job", kernel, 0, 11, 133, 0, 0, 0, 0, 44);
    }

    private static void endsWithEnd() {
        PeriodKernel kernel = Checks.single(3, 9, Checks.word(Checks.PUSH, 5), Checks.word(Checks.JUMP, 3),
                Checks.END, Checks.END, Checks.END);
        Checks.due("start()", kernel.start(), 0);
        Checks.dueJob("released", kernel, 0, 0, 9, 0, 3, 0, 0, 0, 0, 0, 0, 0, 0);
        Checks.due("two steps", kernel.step(2), 2);
        Checks.dueJob("run", kernel, 0, 0, 7, 0, 3, 3, 1, 5);
        Checks.due("to its end", kernel.step(2), 1);
        Checks.dueJob("done", kernel, 0, 0, 0, 0, 3, 4, 1, 5, 0, 0, 0, 0, 0);
        Checks.due("pick(0) when done", kernel.pick(0), false);
    }

    private static void endsWithItsLastStep() {
        PeriodKernel kernel = Checks.single(3, 2, Checks.word(Checks.PUSH, 5), Checks.word(Checks.PUSH, 6), Checks.END);
        Checks.due("start()", kernel.start(), 0);
        Checks.due("pick(0)", kernel.pick(0), true);
        Checks.dueJob("not yet", kernel, 0, 10, 0);
        Checks.due("pick(0)", kernel.pick(0), true);
        Checks.dueJob("OVERRAN", kernel, 0, 0, 0, 0, 3, 2, 2, 6, 0, 0, 0, 0, 1);
        Checks.due("pick(0)", kernel.pick(0), false);
        for (int i = 1; i <= 3; i++) {
            kernel.advance();
        }
        Checks.dueJob("the next job did not", kernel, 0, 0, 2, 3, 6, 0, 0, 0, 0, 0, 0, 0, 0);
    }

    private static void endsWithBoth() {
        PeriodKernel kernel = Checks.single(3, 2, Checks.word(Checks.PUSH, 5), Checks.END);
        Checks.due("start()", kernel.start(), 0);
        Checks.due("steps", kernel.step(9), 2);
        Checks.dueJob("END was the last step", kernel, 0, 0, 0, 0, 3, 2, 1, 5, 0, 0, 0, 0, 0);
    }

    private static void overrunsInAJump() {
        PeriodKernel kernel = Checks.single(3, 5, Checks.word(Checks.JUMP, 1), Checks.word(Checks.JUMP, 0));
        Checks.due("start()", kernel.start(), 0);
        Checks.due("steps", kernel.step(2000), 5);
        Checks.dueJob("behind the last JUMP", kernel, 0, 0, 0, 0, 3, 1, 0, 0, 0, 0, 0, 0, 1);
    }

    private static void asksBeyond() {
        PeriodKernel kernel = started(Checks.END);
        for (int what : new int[] {-1, 17, 18, Integer.MIN_VALUE, Integer.MAX_VALUE}) {
            Checks.due("job(0, " + what + ")", kernel.job(0, what), Checks.NONE);
        }
        for (int task : new int[] {-1, 8, Integer.MIN_VALUE, Integer.MAX_VALUE}) {
            Checks.due("job(" + task + ", 0)", kernel.job(task, 0), Checks.NONE);
            Checks.due("job(" + task + ", 6)", kernel.job(task, 6), Checks.NONE);
            Checks.refused("pick(" + task + ")", Checks.INDEX, () -> kernel.pick(task));
        }
        Checks.dueJob("without a job", kernel, 1, 0, 0, Checks.NONE, Checks.NONE, 0, 0, 0, 0, 0, 0, 0, 0);
        Checks.due("pick(1) without a job", kernel.pick(1), false);
    }
}
