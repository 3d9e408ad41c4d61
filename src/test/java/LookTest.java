/** Promise 11: the look at the program before it starts. */
public final class LookTest {
    private static final int[] PLAIN = {Checks.END, Checks.ADD, Checks.SUB, Checks.MUL, Checks.DIV, Checks.LESS,
        Checks.SAME, Checks.DUP, Checks.SWAP, Checks.DROP};

    public static void main(String[] args) {
        wordsThatAreNone();
        wordsBeyondTheCode();
        tooFewOnTheStack();
        tooManyOnTheStack();
        severalWays();
        wordsNotComeTo();
        firstTask();
        slotsOfTheOtherWay();
        modesThatDoNotDivide();
        portsWithTwoWriters();
        portsOfSensors();
        guardsToNoMode();
        budgetsThatDoNotFit();
        budgetsTogether();
        modesThatAreNone();
        faultsInTheirOrder();
        startsOnce();
        Checks.end();
    }

    /** Start's answer for a task 0 with these words, alone and unwired. */
    private static int start(int... words) {
        PeriodKernel kernel = Checks.single(60, 1, words);
        return kernel.start();
    }

    private static int[] upTo(int pushes, int... words) {
        int[] all = new int[pushes + words.length];
        for (int i = 0; i < pushes; i++) {
            all[i] = Checks.word(Checks.PUSH, i);
        }
        System.arraycopy(words, 0, all, pushes, words.length);
        return all;
    }

    private static void wordsThatAreNone() {
        for (int what = 17; what <= 63; what++) {
            Checks.due("word " + what, start(upTo(2, what, Checks.END)), 100);
        }
        for (int what : PLAIN) {
            Checks.due("word " + what, start(upTo(2, what, Checks.END)), 0);
            Checks.due("word " + what + " with 1", start(upTo(2, Checks.word(what, 1), Checks.END)), 100);
            Checks.due("word " + what + " with -1", start(upTo(2, Checks.word(what, -1), Checks.END)), 100);
        }
        for (int what : new int[] {Checks.LOAD, Checks.STORE}) {
            Checks.due("local 0", start(upTo(1, Checks.word(what, 0), Checks.END)), 0);
            Checks.due("local 3", start(upTo(1, Checks.word(what, 3), Checks.END)), 0);
            Checks.due("local 4", start(upTo(1, Checks.word(what, 4), Checks.END)), 100);
            Checks.due("local -1", start(upTo(1, Checks.word(what, -1), Checks.END)), 100);
        }
        for (int what : new int[] {Checks.GET, Checks.SET}) {
            Checks.due("slot 0, unwired", start(upTo(1, Checks.word(what, 0), Checks.END)), 200);
            Checks.due("slot 5, unwired", start(upTo(1, Checks.word(what, 5), Checks.END)), 200);
            Checks.due("slot 6", start(upTo(1, Checks.word(what, 6), Checks.END)), 100);
            Checks.due("slot -1", start(upTo(1, Checks.word(what, -1), Checks.END)), 100);
        }
    }

    private static void wordsBeyondTheCode() {
        Checks.due("no code", start(), 100);
        Checks.due("END alone", start(Checks.END), 0);
        Checks.due("no next word", start(Checks.word(Checks.PUSH, 1)), 100);
        Checks.due("JUMP to itself", start(Checks.word(Checks.JUMP, 0)), 0);
        Checks.due("JUMP behind the code", start(Checks.word(Checks.JUMP, 1)), 100);
        Checks.due("JUMP before the code", start(Checks.word(Checks.JUMP, -1), Checks.END), 100);
        Checks.due("JUMP to the last", start(Checks.word(Checks.JUMP, 1), Checks.END), 0);
        Checks.due("SKIP to the last", start(upTo(1, Checks.word(Checks.SKIP, 2), Checks.END)), 0);
        Checks.due("SKIP behind the code", start(upTo(1, Checks.word(Checks.SKIP, 3), Checks.END)), 100);
        Checks.due("SKIP before the code", start(upTo(1, Checks.word(Checks.SKIP, -1), Checks.END)), 100);
        Checks.due("SKIP without a next word", start(upTo(1, Checks.word(Checks.SKIP, 0))), 100);
        Checks.due("SKIP and JUMP back", start(upTo(1, Checks.word(Checks.SKIP, 0), Checks.word(Checks.JUMP, 0))), 0);
    }

    private static void tooFewOnTheStack() {
        int[] takesOne = {Checks.word(Checks.SET, 0), Checks.word(Checks.SKIP, 1), Checks.DUP, Checks.DROP,
            Checks.word(Checks.STORE, 0)};
        for (int word : takesOne) {
            Checks.due("word " + word + " of none", start(word, Checks.END), 100);
        }
        int[] takesTwo = {Checks.ADD, Checks.SUB, Checks.MUL, Checks.DIV, Checks.LESS, Checks.SAME, Checks.SWAP};
        for (int word : takesTwo) {
            Checks.due("word " + word + " of none", start(word, Checks.END), 100);
            Checks.due("word " + word + " of one", start(upTo(1, word, Checks.END)), 100);
            Checks.due("word " + word + " of two", start(upTo(2, word, Checks.END)), 0);
        }
        Checks.due("the result comes alone", start(upTo(2, Checks.ADD, Checks.ADD, Checks.END)), 100);
        Checks.due("SKIP takes one", start(upTo(1, Checks.word(Checks.SKIP, 2), Checks.DROP, Checks.END)), 100);
        Checks.due("SWAP leaves two", start(upTo(2, Checks.SWAP, Checks.DROP, Checks.DROP, Checks.END)), 0);
        Checks.due("DUP leaves two", start(upTo(1, Checks.DUP, Checks.DROP, Checks.DROP, Checks.END)), 0);
    }

    private static void tooManyOnTheStack() {
        Checks.due("8 are on it", start(upTo(8, Checks.END)), 0);
        Checks.due("9 are on it", start(upTo(9, Checks.END)), 100);
        Checks.due("8 and SWAP", start(upTo(8, Checks.SWAP, Checks.END)), 0);
        Checks.due("8 and ADD", start(upTo(8, Checks.ADD, Checks.word(Checks.PUSH, 0), Checks.END)), 0);
        Checks.due("8 and DUP", start(upTo(8, Checks.DUP, Checks.END)), 100);
        Checks.due("8 and LOAD", start(upTo(8, Checks.word(Checks.LOAD, 0), Checks.END)), 100);
        Checks.due("8 and GET", start(upTo(8, Checks.word(Checks.GET, 0), Checks.END)), 100);
        Checks.due("ever more", start(Checks.word(Checks.PUSH, 0), Checks.word(Checks.JUMP, 0)), 100);
    }

    private static void severalWays() {
        Checks.due("as many in each", start(upTo(1, Checks.word(Checks.SKIP, 4), Checks.word(Checks.PUSH, 1),
                Checks.word(Checks.JUMP, 5), Checks.word(Checks.PUSH, 2), Checks.DROP, Checks.END)), 0);
        Checks.due("more in one", start(upTo(1, Checks.word(Checks.SKIP, 3), Checks.word(Checks.PUSH, 1), Checks.END)),
                100);
        Checks.due("a loop with as many", start(upTo(2, Checks.word(Checks.SKIP, 4), Checks.word(Checks.JUMP, 1),
                Checks.END)), 0);
        Checks.due("a loop with fewer", start(upTo(3, Checks.word(Checks.SKIP, 4), Checks.word(Checks.JUMP, 3),
                Checks.END)), 100);
    }

    private static void wordsNotComeTo() {
        Checks.due("behind END", start(Checks.END, 63, Checks.ADD, Checks.word(Checks.JUMP, 99)), 0);
        Checks.due("jumped over", start(Checks.word(Checks.JUMP, 2), Checks.word(Checks.GET, 9), Checks.END), 0);
        PeriodKernel kernel = Checks.single(4, 1, Checks.END, Checks.word(Checks.SET, 0), Checks.word(Checks.GET, 0));
        Checks.due("unwired slots behind END", kernel.start(), 0);
    }

    private static void firstTask() {
        PeriodKernel kernel = Checks.single(60, 1, Checks.END);
        kernel.use(0, 7, 1);
        kernel.use(0, 5, 1);
        kernel.mode(3, 1);
        kernel.use(3, 2, 1);
        Checks.due("task 2, in mode 3", kernel.start(), 102);
        kernel.use(3, 2, 0);
        Checks.due("task 5", kernel.start(), 105);
        Checks.code(kernel, 5, Checks.END);
        Checks.due("task 7", kernel.start(), 107);
        Checks.code(kernel, 7, Checks.END);
        Checks.due("the others are not used", kernel.start(), 0);
    }

    private static void slotsOfTheOtherWay() {
        PeriodKernel kernel = Checks.single(60, 1, Checks.END);
        kernel.use(0, 3, 1);
        kernel.use(0, 4, 1);
        Checks.code(kernel, 3, Checks.word(Checks.GET, 2), Checks.word(Checks.SET, 5), Checks.END);
        Checks.code(kernel, 4, Checks.word(Checks.JUMP, 1), Checks.word(Checks.GET, 0), Checks.END);
        Checks.due("unwired both", kernel.start(), 203);
        kernel.wire(3, 2, 0, Checks.IN);
        Checks.due("SET of an unwired one", kernel.start(), 203);
        kernel.wire(3, 5, 1, Checks.IN);
        Checks.due("SET of IN", kernel.start(), 203);
        kernel.wire(3, 5, 1, Checks.OUT);
        Checks.due("the next task", kernel.start(), 204);
        kernel.wire(4, 0, 2, Checks.OUT);
        Checks.due("GET of OUT", kernel.start(), 204);
        kernel.wire(4, 0, 2, Checks.IN);
        kernel.wire(3, 2, 0, Checks.NONE);
        Checks.due("unwired again", kernel.start(), 203);
        kernel.wire(3, 2, 0, Checks.IN);
        Checks.due("all wired", kernel.start(), 0);
    }

    private static void modesThatDoNotDivide() {
        PeriodKernel kernel = new PeriodKernel();
        for (int i = 0; i < 8; i++) {
            Checks.code(kernel, i, Checks.END);
        }
        kernel.mode(1, 5);
        kernel.use(1, 0, 2);
        Checks.due("mode 0 is none", kernel.start(), 300);
        kernel.mode(0, 12);
        Checks.due("5 by 2", kernel.start(), 301);
        kernel.use(0, 7, 5);
        Checks.due("12 by 5", kernel.start(), 300);
        kernel.use(0, 7, 12);
        kernel.use(1, 0, 10);
        Checks.due("5 by 10", kernel.start(), 301);
        kernel.use(1, 0, 5);
        kernel.mode(3, 1);
        kernel.use(3, 6, 12);
        Checks.due("1 by 12", kernel.start(), 303);
        kernel.use(3, 6, 1);
        kernel.use(2, 6, 7);
        Checks.due("mode 2 is none", kernel.start(), 0);
    }

    private static PeriodKernel fourTasks() {
        PeriodKernel kernel = new PeriodKernel();
        for (int i = 0; i < 4; i++) {
            Checks.code(kernel, i, Checks.END);
        }
        kernel.mode(0, 60);
        kernel.mode(2, 60);
        return kernel;
    }

    private static void portsWithTwoWriters() {
        PeriodKernel kernel = fourTasks();
        kernel.wire(0, 0, 15, Checks.OUT);
        kernel.wire(1, 5, 15, Checks.OUT);
        kernel.use(0, 0, 1);
        kernel.use(2, 1, 1);
        kernel.use(1, 0, 1);
        kernel.use(1, 1, 1);
        kernel.use(2, 0, 1);
        Checks.due("two in mode 2", kernel.start(), 402);
        kernel.use(0, 1, 1);
        Checks.due("two in mode 0", kernel.start(), 400);
        kernel.use(0, 0, 0);
        kernel.use(2, 0, 0);
        kernel.wire(1, 0, 15, Checks.OUT);
        Checks.due("one with two slots", kernel.start(), 400);
        kernel.wire(1, 0, 15, Checks.IN);
        kernel.wire(2, 0, 15, Checks.OUT);
        Checks.due("one OUT, one IN, and one not used", kernel.start(), 0);
    }

    private static void portsOfSensors() {
        PeriodKernel kernel = fourTasks();
        kernel.use(0, 0, 1);
        kernel.use(2, 1, 1);
        kernel.wire(1, 3, 4, Checks.OUT);
        kernel.sense(7, 4);
        Checks.due("OUT at a sensor's port", kernel.start(), 402);
        kernel.sense(0, 4);
        Checks.due("and two sensors at it", kernel.start(), 400);
        kernel.wire(1, 3, 4, Checks.IN);
        Checks.due("two sensors at one port", kernel.start(), 400);
        kernel.sense(0, 0);
        kernel.sense(1, 15);
        kernel.wire(3, 0, 15, Checks.OUT);
        Checks.due("IN at a sensor's port, and OUT of a task not used", kernel.start(), 0);
    }

    private static void guardsToNoMode() {
        PeriodKernel kernel = fourTasks();
        kernel.use(0, 0, 1);
        kernel.guard(1, 0, 0, 0, 3);
        kernel.guard(2, 0, 0, 0, 2);
        kernel.guard(2, 0, 0, 0, 3);
        Checks.due("mode 2's second", kernel.start(), 502);
        kernel.guard(0, 0, 0, 0, 1);
        Checks.due("mode 0's", kernel.start(), 500);
        kernel.mode(1, 1);
        Checks.due("mode 1 is one now", kernel.start(), 501);
        kernel.mode(3, 1);
        Checks.due("all are", kernel.start(), 0);
    }

    private static void budgetsThatDoNotFit() {
        PeriodKernel kernel = fourTasks();
        kernel.mode(2, 3);
        kernel.use(2, 1, 1);
        kernel.use(2, 2, 3);
        kernel.task(1, 30);
        kernel.task(2, 11);
        kernel.use(0, 0, 1);
        Checks.due("63 of 60", kernel.start(), 602);
        kernel.task(1, 27);
        Checks.due("60 of 60", kernel.start(), 0);

        PeriodKernel single = Checks.single(1, 21, Checks.END);
        Checks.due("21 of 20", single.start(), 600);
        single.task(0, 20);
        Checks.due("20 of 20", single.start(), 0);

        PeriodKernel late = Checks.single(10, 200, Checks.END);
        Checks.due("200 of 200", late.start(), 0);
        PeriodKernel early = Checks.single(9, 181, Checks.END);
        Checks.due("181 of 180", early.start(), 600);
    }

    private static void budgetsTogether() {
        PeriodKernel kernel = fourTasks();
        kernel.mode(0, 12);
        kernel.use(0, 0, 2);
        kernel.use(0, 1, 12);
        kernel.use(0, 2, 3);
        kernel.task(0, 3);
        kernel.task(1, 18);
        kernel.task(2, 7);
        Checks.due("243 of 240", kernel.start(), 600);
        kernel.task(2, 6);
        Checks.due("240 of 240", kernel.start(), 0);
    }

    private static void modesThatAreNone() {
        PeriodKernel kernel = Checks.single(60, 1, Checks.END);
        kernel.use(3, 1, 12);
        kernel.use(3, 0, 12);
        kernel.use(3, 2, 7);
        kernel.guard(3, 0, 0, 0, 2);
        Checks.code(kernel, 2, 63);
        kernel.wire(0, 0, 0, Checks.OUT);
        kernel.wire(2, 0, 0, Checks.OUT);
        kernel.task(1, 200);
        Checks.due("what stands for mode 3 is left out", kernel.start(), 0);
    }

    private static void faultsInTheirOrder() {
        PeriodKernel kernel = new PeriodKernel();
        kernel.mode(1, 5);
        kernel.use(1, 7, 2);
        kernel.use(1, 6, 1);
        Checks.code(kernel, 6, Checks.word(Checks.GET, 0), Checks.END);
        kernel.task(6, 200);
        kernel.wire(7, 0, 0, Checks.OUT);
        kernel.wire(7, 1, 0, Checks.OUT);
        kernel.guard(1, 0, 0, 0, 2);
        Checks.due("a code", kernel.start(), 107);
        Checks.code(kernel, 7, Checks.END);
        Checks.due("a slot", kernel.start(), 206);
        kernel.wire(6, 0, 0, Checks.IN);
        Checks.due("mode 0", kernel.start(), 300);
        kernel.mode(0, 3);
        Checks.due("often", kernel.start(), 301);
        kernel.use(1, 7, 5);
        Checks.due("two slots at a port", kernel.start(), 401);
        kernel.wire(7, 1, 1, Checks.OUT);
        Checks.due("a guard", kernel.start(), 501);
        kernel.mode(2, 1);
        Checks.due("budgets", kernel.start(), 601);
        Checks.dueAbout("nothing runs", kernel, Checks.NONE, Checks.NONE, Checks.NONE, 0, 0);
        Checks.refused("step", Checks.STATE, () -> kernel.step(0));
        kernel.task(6, 95);
        Checks.due("none is left", kernel.start(), 0);
        Checks.dueAbout("it runs", kernel, 0, 0, 0, 0, 0);
    }

    private static void startsOnce() {
        PeriodKernel kernel = Checks.single(2, 1, Checks.END);
        Checks.due("start()", kernel.start(), 0);
        Checks.refused("start() again", Checks.STATE, kernel::start);
        kernel.step(1);
        kernel.advance();
        Checks.refused("start() at time 1", Checks.STATE, kernel::start);
        Checks.dueAbout("it goes on", kernel, 1, 0, 0, 0, 0);
    }
}
