/** Promises 1 to 10: a new object, and what builds on it. */
public final class BuildTest {
    public static void main(String[] args) {
        newObject();
        budgets();
        codes();
        ports();
        wires();
        wiresAgain();
        modes();
        uses();
        guards();
        senses();
        actuates();
        orderOfRefusals();
        refusedCallsChangeNothing();
        nothingIsBuiltWhileItRuns();
        Checks.end();
    }

    private static PeriodKernel running() {
        PeriodKernel kernel = Checks.single(4, 5, Checks.END);
        Checks.due("start()", kernel.start(), 0);
        return kernel;
    }

    private static void newObject() {
        PeriodKernel kernel = new PeriodKernel();
        Checks.dueAbout("new", kernel, Checks.NONE, Checks.NONE, Checks.NONE, 0, 0, Checks.NONE);
        for (int i = 0; i < 16; i++) {
            Checks.due("new: value(" + i + ")", kernel.value(i), 0);
        }
        for (int i = 0; i < 8; i++) {
            Checks.due("new: actuator(" + i + ", 0)", kernel.actuator(i, 0), 0);
            Checks.due("new: actuator(" + i + ", 1)", kernel.actuator(i, 1), 0);
            Checks.dueJob("new", kernel, i, 0, 0, Checks.NONE, Checks.NONE, 0, 0, 0, 0, 0, 0, 0, 0);
            Checks.dueJob("new", kernel, i, 11, 0, 0, 0, 0, 0, 0, Checks.NONE);
            Checks.due("new: pick(" + i + ")", kernel.pick(i), false);
        }
        Checks.dueEvent("new", kernel, 0, Checks.NONE, Checks.NONE, Checks.NONE, Checks.NONE);
        Checks.refused("new: step(1)", Checks.STATE, () -> kernel.step(1));
        Checks.refused("new: advance()", Checks.STATE, kernel::advance);
        Checks.due("new: start()", kernel.start(), 300);
    }

    private static void budgets() {
        PeriodKernel kernel = new PeriodKernel();
        kernel.mode(0, 60);
        for (int i = 0; i < 8; i++) {
            kernel.use(0, i, 1);
            Checks.code(kernel, i, Checks.END);
        }
        kernel.task(1, 1);
        kernel.task(2, 200);
        kernel.task(7, 17);
        kernel.task(7, 18);
        for (int budget : new int[] {0, -1, 201, Integer.MIN_VALUE, Integer.MAX_VALUE}) {
            Checks.refused("task(1, " + budget + ")", Checks.ARGUMENT, () -> kernel.task(1, budget));
        }
        for (int task : new int[] {-1, 8, Integer.MIN_VALUE, Integer.MAX_VALUE}) {
            Checks.refused("task(" + task + ", 1)", Checks.INDEX, () -> kernel.task(task, 1));
        }
        Checks.due("start()", kernel.start(), 0);
        Checks.due("a first budget", kernel.job(0, 0), 1);
        Checks.due("the least budget", kernel.job(1, 0), 1);
        Checks.due("the greatest budget", kernel.job(2, 0), 200);
        Checks.due("the last budget told", kernel.job(7, 0), 18);
    }

    private static void codes() {
        PeriodKernel kernel = Checks.single(4, 40);
        for (int i = 1; i <= 31; i++) {
            Checks.due("code(0, JUMP)", kernel.code(0, Checks.word(Checks.JUMP, i)), i);
        }
        Checks.due("code(0, END)", kernel.code(0, Checks.END), 32);
        Checks.refused("a 33rd word", Checks.ARGUMENT, () -> kernel.code(0, Checks.END));
        Checks.due("another task's first word", kernel.code(7, -1), 1);
        Checks.refused("code(8, 0)", Checks.INDEX, () -> kernel.code(8, 0));
        Checks.refused("code(-1, 0)", Checks.INDEX, () -> kernel.code(-1, 0));
        Checks.due("start()", kernel.start(), 0);
        Checks.due("all words are gone through", kernel.step(2000), 32);
        Checks.dueJob("all words", kernel, 0, 3, 32);
        Checks.refused("a 33rd word while it runs", Checks.ARGUMENT, () -> kernel.code(0, Checks.END));
        Checks.refused("a word while it runs", Checks.STATE, () -> kernel.code(7, Checks.END));
    }

    private static void ports() {
        PeriodKernel kernel = new PeriodKernel();
        kernel.port(0, -3, 9, -3);
        Checks.due("at the least", kernel.value(0), -3);
        kernel.port(0, -3, 9, 9);
        Checks.due("at the greatest", kernel.value(0), 9);
        kernel.port(15, 7, 7, 7);
        Checks.due("the only one", kernel.value(15), 7);
        kernel.port(15, Integer.MIN_VALUE, Integer.MAX_VALUE, 5);
        Checks.due("the widest range", kernel.value(15), 5);
        Checks.refused("below", Checks.ARGUMENT, () -> kernel.port(0, 0, 9, -1));
        Checks.refused("above", Checks.ARGUMENT, () -> kernel.port(0, 0, 9, 10));
        Checks.refused("an empty range", Checks.ARGUMENT, () -> kernel.port(0, 1, 0, 0));
        Checks.refused("port 16", Checks.INDEX, () -> kernel.port(16, 0, 0, 0));
        Checks.refused("port -1", Checks.INDEX, () -> kernel.port(-1, 0, 0, 0));
        Checks.due("as it was", kernel.value(0), 9);
    }

    private static void wires() {
        PeriodKernel kernel = new PeriodKernel();
        kernel.port(3, 0, 50, 20);
        kernel.wire(7, 5, 3, Checks.OUT);
        Checks.due("OUT holds its port's value", kernel.job(7, 16), 20);
        kernel.port(3, 0, 50, 30);
        Checks.due("as it was when it was wired", kernel.job(7, 16), 20);
        kernel.wire(7, 4, 3, Checks.IN);
        Checks.due("IN and never latched", kernel.job(7, 15), 0);
        for (int way : new int[] {-2, 2, Integer.MIN_VALUE, Integer.MAX_VALUE}) {
            Checks.refused("way " + way, Checks.ARGUMENT, () -> kernel.wire(7, 5, 3, way));
        }
        Checks.refused("task 8", Checks.INDEX, () -> kernel.wire(8, 0, 0, Checks.IN));
        Checks.refused("task -1", Checks.INDEX, () -> kernel.wire(-1, 0, 0, Checks.IN));
        Checks.refused("slot 6", Checks.INDEX, () -> kernel.wire(0, 6, 0, Checks.IN));
        Checks.refused("slot -1", Checks.INDEX, () -> kernel.wire(0, -1, 0, Checks.IN));
        Checks.refused("port 16", Checks.INDEX, () -> kernel.wire(0, 0, 16, Checks.IN));
        Checks.refused("no port, OUT", Checks.INDEX, () -> kernel.wire(0, 0, Checks.NONE, Checks.OUT));
        Checks.refused("no port, unwired", Checks.INDEX, () -> kernel.wire(7, 5, Checks.NONE, Checks.NONE));
        Checks.due("still held", kernel.job(7, 16), 20);
    }

    private static void wiresAgain() {
        PeriodKernel kernel = Checks.single(2, 9, Checks.word(Checks.GET, 0), Checks.word(Checks.SET, 1), Checks.END);
        kernel.port(0, 0, 9, 4);
        kernel.port(1, 0, 9, 5);
        kernel.port(2, 0, 9, 6);
        kernel.wire(0, 0, 2, Checks.OUT);
        kernel.wire(0, 0, 0, Checks.IN);
        Checks.due("OUT, then IN", kernel.job(0, 11), 0);
        kernel.wire(0, 1, 2, Checks.OUT);
        kernel.wire(0, 1, 1, Checks.OUT);
        Checks.due("OUT, then at another port", kernel.job(0, 12), 5);
        kernel.wire(0, 2, 2, Checks.OUT);
        kernel.wire(0, 2, 0, Checks.NONE);
        Checks.due("unwired", kernel.job(0, 13), 0);
        kernel.wire(0, 3, 2, Checks.OUT);
        kernel.port(2, 0, 9, 7);
        kernel.wire(0, 3, 2, Checks.OUT);
        Checks.due("wired once more", kernel.job(0, 14), 7);
        kernel.wire(0, 3, 2, Checks.NONE);
        Checks.due("start()", kernel.start(), 0);
        kernel.step(9);
        kernel.advance();
        kernel.advance();
        Checks.due("only one event", kernel.about(3), 1);
        Checks.dueEvent("the wire that stands", kernel, 0, 2, 1, 4, 0);
    }

    private static void modes() {
        PeriodKernel kernel = Checks.single(1, 1, Checks.END);
        for (int period : new int[] {-1, 61, Integer.MIN_VALUE, Integer.MAX_VALUE}) {
            Checks.refused("mode(0, " + period + ")", Checks.ARGUMENT, () -> kernel.mode(0, period));
        }
        Checks.refused("mode 4", Checks.INDEX, () -> kernel.mode(4, 1));
        Checks.refused("mode -1", Checks.INDEX, () -> kernel.mode(-1, 1));
        kernel.mode(0, 0);
        Checks.due("mode 0 is none again", kernel.start(), 300);
        kernel.mode(3, 60);
        kernel.mode(0, 60);
        Checks.due("start()", kernel.start(), 0);
        Checks.due("the period", kernel.job(0, 2), 60);
    }

    private static void uses() {
        PeriodKernel kernel = Checks.single(12, 1, Checks.END);
        for (int often : new int[] {-1, 13, Integer.MIN_VALUE, Integer.MAX_VALUE}) {
            Checks.refused("use(0, 0, " + often + ")", Checks.ARGUMENT, () -> kernel.use(0, 0, often));
        }
        Checks.refused("mode 4", Checks.INDEX, () -> kernel.use(4, 0, 1));
        Checks.refused("mode -1", Checks.INDEX, () -> kernel.use(-1, 0, 1));
        Checks.refused("task 8", Checks.INDEX, () -> kernel.use(0, 8, 1));
        Checks.refused("task -1", Checks.INDEX, () -> kernel.use(0, -1, 1));
        Checks.code(kernel, 7, Checks.END);
        kernel.use(0, 7, 12);
        kernel.use(0, 1, 1);
        kernel.use(0, 1, 0);
        Checks.due("start()", kernel.start(), 0);
        Checks.due("used once", kernel.job(0, 2), 12);
        Checks.due("used twelve times", kernel.job(7, 2), 1);
        Checks.due("used no more", kernel.job(1, 2), Checks.NONE);
    }

    private static void guards() {
        PeriodKernel kernel = Checks.single(1, 1, Checks.END);
        for (int i = 1; i <= 4; i++) {
            Checks.due("guard " + i, kernel.guard(2, 15, i + 1, 0, 3), i);
        }
        Checks.refused("a fifth", Checks.ARGUMENT, () -> kernel.guard(2, 0, 0, 0, 0));
        Checks.due("another mode's first", kernel.guard(0, 0, 0, Integer.MIN_VALUE, 0), 1);
        for (int how : new int[] {-1, 6, Integer.MIN_VALUE, Integer.MAX_VALUE}) {
            Checks.refused("how " + how, Checks.ARGUMENT, () -> kernel.guard(0, 0, how, 0, 0));
        }
        Checks.refused("mode 4", Checks.INDEX, () -> kernel.guard(4, 0, 0, 0, 0));
        Checks.refused("mode -1", Checks.INDEX, () -> kernel.guard(-1, 0, 0, 0, 0));
        Checks.refused("port 16", Checks.INDEX, () -> kernel.guard(0, 16, 0, 0, 0));
        Checks.refused("port -1", Checks.INDEX, () -> kernel.guard(0, -1, 0, 0, 0));
        Checks.refused("to 4", Checks.INDEX, () -> kernel.guard(0, 0, 0, 0, 4));
        Checks.refused("to none", Checks.INDEX, () -> kernel.guard(0, 0, 0, 0, Checks.NONE));
        Checks.due("the second", kernel.guard(0, 0, 5, 0, 0), 2);
        Checks.refused("a fifth, to a mode that is not", Checks.INDEX, () -> kernel.guard(2, 0, 0, 0, 4));
    }

    private static void senses() {
        PeriodKernel kernel = Checks.single(1, 1, Checks.END);
        kernel.port(0, 0, 9, 1);
        kernel.port(1, 0, 9, 2);
        kernel.port(15, 0, 9, 3);
        kernel.sense(7, 0);
        kernel.sense(7, 15);
        kernel.sense(0, 1);
        kernel.sense(0, Checks.NONE);
        Checks.refused("sensor 8", Checks.INDEX, () -> kernel.sense(8, 0));
        Checks.refused("sensor -1", Checks.INDEX, () -> kernel.sense(-1, 0));
        Checks.refused("port 16", Checks.INDEX, () -> kernel.sense(7, 16));
        Checks.refused("port -2", Checks.INDEX, () -> kernel.sense(7, -2));
        kernel.sensor(7, 8);
        kernel.sensor(0, 8);
        Checks.due("start()", kernel.start(), 0);
        Checks.due("bound before", kernel.value(0), 1);
        Checks.due("bound no more", kernel.value(1), 2);
        Checks.due("bound", kernel.value(15), 8);
    }

    private static void actuates() {
        PeriodKernel kernel = Checks.single(1, 1, Checks.END);
        kernel.port(0, 0, 9, 1);
        kernel.port(15, 0, 9, 3);
        kernel.actuate(7, 0);
        kernel.actuate(7, 15);
        kernel.actuate(0, 0);
        kernel.actuate(0, Checks.NONE);
        kernel.actuate(1, 15);
        Checks.refused("actuator 8", Checks.INDEX, () -> kernel.actuate(8, 0));
        Checks.refused("actuator -1", Checks.INDEX, () -> kernel.actuate(-1, 0));
        Checks.refused("port 16", Checks.INDEX, () -> kernel.actuate(7, 16));
        Checks.refused("port -2", Checks.INDEX, () -> kernel.actuate(7, -2));
        Checks.due("nothing runs", kernel.actuator(7, 0), 0);
        Checks.due("start()", kernel.start(), 0);
        Checks.due("bound no more", kernel.actuator(0, 0), 0);
        Checks.due("bound", kernel.actuator(7, 0), 3);
        Checks.due("two at one port", kernel.actuator(1, 0), 3);
    }

    private static void orderOfRefusals() {
        PeriodKernel kernel = running();
        Checks.refused("task", Checks.INDEX, () -> kernel.task(8, 0));
        Checks.refused("port", Checks.INDEX, () -> kernel.port(16, 1, 0, 0));
        Checks.refused("wire", Checks.INDEX, () -> kernel.wire(0, 0, 16, 5));
        Checks.refused("mode", Checks.INDEX, () -> kernel.mode(4, 61));
        Checks.refused("use", Checks.INDEX, () -> kernel.use(0, 8, 13));
        Checks.refused("guard", Checks.INDEX, () -> kernel.guard(0, 0, 6, 0, 4));
        Checks.refused("sense", Checks.INDEX, () -> kernel.sense(0, 16));
        Checks.refused("actuate", Checks.INDEX, () -> kernel.actuate(8, 0));
        Checks.refused("task", Checks.ARGUMENT, () -> kernel.task(0, 0));
        Checks.refused("port", Checks.ARGUMENT, () -> kernel.port(0, 1, 0, 0));
        Checks.refused("wire", Checks.ARGUMENT, () -> kernel.wire(0, 0, 0, 5));
        Checks.refused("mode", Checks.ARGUMENT, () -> kernel.mode(0, 61));
        Checks.refused("use", Checks.ARGUMENT, () -> kernel.use(0, 0, 13));
        Checks.refused("guard", Checks.ARGUMENT, () -> kernel.guard(0, 0, 6, 0, 0));
    }

    private static void refusedCallsChangeNothing() {
        PeriodKernel kernel = Checks.single(4, 5, Checks.word(Checks.PUSH, 3), Checks.word(Checks.SET, 0), Checks.END);
        kernel.port(0, 0, 9, 1);
        kernel.wire(0, 0, 0, Checks.OUT);
        Checks.refused("task", Checks.ARGUMENT, () -> kernel.task(0, 201));
        Checks.refused("port", Checks.ARGUMENT, () -> kernel.port(0, 5, 6, 9));
        Checks.refused("wire", Checks.ARGUMENT, () -> kernel.wire(0, 0, 1, 2));
        Checks.refused("mode", Checks.ARGUMENT, () -> kernel.mode(0, 61));
        Checks.refused("use", Checks.ARGUMENT, () -> kernel.use(0, 0, 13));
        Checks.refused("guard", Checks.ARGUMENT, () -> kernel.guard(0, 0, 6, 0, 1));
        Checks.refused("sense", Checks.INDEX, () -> kernel.sense(0, 16));
        Checks.refused("step", Checks.STATE, () -> kernel.step(3));
        Checks.due("start()", kernel.start(), 0);
        Checks.dueJob("as built", kernel, 0, 0, 5, 0, 4, 0);
        kernel.step(3);
        for (int i = 1; i <= 4; i++) {
            kernel.advance();
        }
        Checks.dueEvent("as built", kernel, 0, 4, 0, 3, 0);
    }

    private static void nothingIsBuiltWhileItRuns() {
        PeriodKernel kernel = running();
        Checks.refused("task", Checks.STATE, () -> kernel.task(0, 9));
        Checks.refused("code", Checks.STATE, () -> kernel.code(0, 0));
        Checks.refused("port", Checks.STATE, () -> kernel.port(0, 0, 9, 9));
        Checks.refused("wire", Checks.STATE, () -> kernel.wire(0, 0, 0, Checks.OUT));
        Checks.refused("unwire", Checks.STATE, () -> kernel.wire(0, 0, 0, Checks.NONE));
        Checks.refused("mode", Checks.STATE, () -> kernel.mode(0, 2));
        Checks.refused("use", Checks.STATE, () -> kernel.use(0, 1, 1));
        Checks.refused("guard", Checks.STATE, () -> kernel.guard(0, 0, 2, 0, 1));
        Checks.refused("sense", Checks.STATE, () -> kernel.sense(0, 0));
        Checks.refused("sense none", Checks.STATE, () -> kernel.sense(0, Checks.NONE));
        Checks.refused("actuate", Checks.STATE, () -> kernel.actuate(0, 0));
        Checks.refused("start", Checks.STATE, kernel::start);
        Checks.due("value(0)", kernel.value(0), 0);
        kernel.step(1);
        for (int i = 1; i <= 4; i++) {
            Checks.due("advance()", kernel.advance(), i);
        }
        Checks.dueAbout("as started", kernel, 4, 0, 4, 0, 1);
        Checks.due("the budget", kernel.job(0, 0), 5);
    }
}
