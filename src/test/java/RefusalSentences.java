import java.util.ArrayList;
import java.util.List;
import java.util.function.Consumer;

/** "Exceptions": which, in which order, and that they leave everything as it was; and the constant. */
final class RefusalSentences extends Checks {
    /** A call that is refused, and how. */
    private static final class Refusal {
        final String what;
        final Class<? extends RuntimeException> how;
        final Consumer<PeriodKernel> call;

        Refusal(String what, Class<? extends RuntimeException> how, Consumer<PeriodKernel> call) {
            this.what = what;
            this.how = how;
            this.call = call;
        }
    }

    private static final int TASK = 0;
    private static final int FULL_TASK = 7;
    private static final int FULL_MODE = 3;

    /** Points of a story. */
    private static final int BUILT = 0;
    private static final int STARTED = 1;
    private static final int LATER = 6;
    private static final int END_OF_STORY = 13;

    static void read(Book book) {
        book.sentence("Exceptions, in this order: IndexOutOfBoundsException "
                + "(no such task, slot, port, mode, sensor, actuator)", RefusalSentences::indexComesFirst);
        book.sentence("IllegalArgumentException (as told)", RefusalSentences::argumentComesNext);
        book.sentence("IllegalStateException (it runs already", RefusalSentences::stateIfItRunsAlready);
        book.sentence("or, where that is told, not yet)", RefusalSentences::stateIfItDoesNotRunYet);
        book.sentence("A call that throws changes nothing", RefusalSentences::whatThrowsChangesNothing);
        book.sentence("The constants: `NONE = -1`: None", RefusalSentences::noneIsMinus1);
    }

    /** Something of everything, a full code and full guards; ports 1 and 2 come to their ends. */
    private static PeriodKernel built() {
        PeriodKernel kernel = new PeriodKernel();
        code(kernel, TASK, word(GET, 0), word(LOAD, 1), ADD, DUP, word(STORE, 1), DUP, word(SET, 1), word(PUSH, -1),
                MUL, word(SET, 2), END);
        kernel.task(TASK, 12);
        kernel.port(0, -50, 50, 3);
        kernel.port(1, -60, 60, 4);
        kernel.port(2, -60, 60, 5);
        kernel.wire(TASK, 0, 0, IN);
        kernel.wire(TASK, 1, 1, OUT);
        kernel.wire(TASK, 2, 2, OUT);
        for (int i = 0; i < 31; i++) {
            kernel.code(FULL_TASK, word(JUMP, i + 1));
        }
        kernel.code(FULL_TASK, word(JUMP, 0));
        kernel.mode(0, 4);
        kernel.use(0, TASK, 2);
        kernel.use(0, FULL_TASK, 1);
        kernel.guard(0, 0, 5, 21, FULL_MODE);
        kernel.mode(FULL_MODE, 3);
        kernel.use(FULL_MODE, TASK, 1);
        for (int i = 0; i < 4; i++) {
            kernel.guard(FULL_MODE, 0, 2, 40 + i, 0);
        }
        kernel.sense(0, 0);
        kernel.sensor(0, 21);
        kernel.actuate(0, 1);
        kernel.actuate(1, 2);
        return kernel;
    }

    private static PeriodKernel running() {
        PeriodKernel kernel = built();
        begin(kernel);
        return kernel;
    }

    private static void eachIsRefused(PeriodKernel kernel, List<Refusal> refusals) {
        for (Refusal refusal : refusals) {
            refused(refusal.what, refusal.how, () -> refusal.call.accept(kernel));
        }
    }

    /** Each is out of its arguments' limits, too, where there are such. */
    private static List<Refusal> ofIndexes() {
        List<Refusal> all = new ArrayList<>();
        for (int no : new int[] {LEAST, -1, GREATEST}) {
            all.add(new Refusal("task " + no, INDEX, k -> k.task(no, 0)));
            all.add(new Refusal("code of task " + no, INDEX, k -> k.code(no, 0)));
            all.add(new Refusal("port " + no, INDEX, k -> k.port(no, 1, 0, 0)));
            all.add(new Refusal("wire of task " + no, INDEX, k -> k.wire(no, 0, 0, 2)));
            all.add(new Refusal("wire of slot " + no, INDEX, k -> k.wire(0, no, 0, 2)));
            all.add(new Refusal("wire at port " + no, INDEX, k -> k.wire(0, 0, no, 2)));
            all.add(new Refusal("mode " + no, INDEX, k -> k.mode(no, 61)));
            all.add(new Refusal("use in mode " + no, INDEX, k -> k.use(no, 0, 13)));
            all.add(new Refusal("use of task " + no, INDEX, k -> k.use(0, no, 13)));
            all.add(new Refusal("guard of mode " + no, INDEX, k -> k.guard(no, 0, 6, 0, 0)));
            all.add(new Refusal("guard of port " + no, INDEX, k -> k.guard(FULL_MODE, no, 6, 0, 0)));
            all.add(new Refusal("guard to mode " + no, INDEX, k -> k.guard(FULL_MODE, 0, 6, 0, no)));
            all.add(new Refusal("sense of sensor " + no, INDEX, k -> k.sense(no, 0)));
            all.add(new Refusal("sense at port " + (no - 1), INDEX, k -> k.sense(0, no - 1)));
            all.add(new Refusal("actuate of actuator " + no, INDEX, k -> k.actuate(no, 0)));
            all.add(new Refusal("actuate at port " + (no - 1), INDEX, k -> k.actuate(0, no - 1)));
            all.add(new Refusal("sensor " + no, INDEX, k -> k.sensor(no, 0)));
            all.add(new Refusal("pick of task " + no, INDEX, k -> k.pick(no)));
            all.add(new Refusal("value of port " + no, INDEX, k -> k.value(no)));
        }
        all.add(new Refusal("task 8", INDEX, k -> k.task(8, 201)));
        all.add(new Refusal("code of task 8", INDEX, k -> k.code(8, 0)));
        all.add(new Refusal("port 16", INDEX, k -> k.port(16, 0, 1, 2)));
        all.add(new Refusal("wire of task 8", INDEX, k -> k.wire(8, 0, 0, -2)));
        all.add(new Refusal("wire of slot 6", INDEX, k -> k.wire(0, 6, 0, -2)));
        all.add(new Refusal("wire at port 16", INDEX, k -> k.wire(0, 0, 16, -2)));
        all.add(new Refusal("mode 4", INDEX, k -> k.mode(4, -1)));
        all.add(new Refusal("use in mode 4", INDEX, k -> k.use(4, 0, -1)));
        all.add(new Refusal("use of task 8", INDEX, k -> k.use(0, 8, -1)));
        all.add(new Refusal("guard of mode 4", INDEX, k -> k.guard(4, 0, -1, 0, 0)));
        all.add(new Refusal("guard of port 16", INDEX, k -> k.guard(FULL_MODE, 16, 0, 0, 0)));
        all.add(new Refusal("guard to mode 4", INDEX, k -> k.guard(FULL_MODE, 0, 0, 0, 4)));
        all.add(new Refusal("sense of sensor 8", INDEX, k -> k.sense(8, NONE)));
        all.add(new Refusal("sense at port 16", INDEX, k -> k.sense(0, 16)));
        all.add(new Refusal("actuate of actuator 8", INDEX, k -> k.actuate(8, NONE)));
        all.add(new Refusal("actuate at port 16", INDEX, k -> k.actuate(0, 16)));
        all.add(new Refusal("sensor 8", INDEX, k -> k.sensor(8, 0)));
        all.add(new Refusal("pick of task 8", INDEX, k -> k.pick(8)));
        all.add(new Refusal("value of port 16", INDEX, k -> k.value(16)));
        return all;
    }

    private static List<Refusal> ofArguments() {
        List<Refusal> all = new ArrayList<>();
        for (int no : new int[] {LEAST, -2, 2001, GREATEST}) {
            all.add(new Refusal("a budget of " + no, ARGUMENT, k -> k.task(TASK, no)));
            all.add(new Refusal("way " + no, ARGUMENT, k -> k.wire(TASK, 1, 0, no)));
            all.add(new Refusal("a period of " + no, ARGUMENT, k -> k.mode(0, no)));
            all.add(new Refusal("used " + no + " times", ARGUMENT, k -> k.use(0, TASK, no)));
            all.add(new Refusal("how " + no, ARGUMENT, k -> k.guard(0, 0, no, 0, FULL_MODE)));
            all.add(new Refusal("step(" + no + ")", ARGUMENT, k -> k.step(no)));
        }
        all.add(new Refusal("a budget of 0", ARGUMENT, k -> k.task(TASK, 0)));
        all.add(new Refusal("a budget of 201", ARGUMENT, k -> k.task(TASK, 201)));
        all.add(new Refusal("word 33", ARGUMENT, k -> k.code(FULL_TASK, END)));
        for (int port = 0; port <= 2; port++) {
            int no = port;
            all.add(new Refusal("a value below", ARGUMENT, k -> k.port(no, 500, 1000, 499)));
            all.add(new Refusal("a value above", ARGUMENT, k -> k.port(no, -1000, -500, -499)));
            all.add(new Refusal("a least above the greatest", ARGUMENT, k -> k.port(no, 10, -10, 0)));
        }
        all.add(new Refusal("way 2", ARGUMENT, k -> k.wire(TASK, 1, 0, 2)));
        all.add(new Refusal("a period of -1", ARGUMENT, k -> k.mode(0, -1)));
        all.add(new Refusal("a period of 61", ARGUMENT, k -> k.mode(0, 61)));
        all.add(new Refusal("used -1 times", ARGUMENT, k -> k.use(0, TASK, -1)));
        all.add(new Refusal("used 13 times", ARGUMENT, k -> k.use(0, TASK, 13)));
        all.add(new Refusal("how -1", ARGUMENT, k -> k.guard(0, 0, -1, 0, FULL_MODE)));
        all.add(new Refusal("how 6", ARGUMENT, k -> k.guard(0, 0, 6, 0, FULL_MODE)));
        all.add(new Refusal("guard 5", ARGUMENT, k -> k.guard(FULL_MODE, 0, 4, 0, 0)));
        all.add(new Refusal("step(-1)", ARGUMENT, k -> k.step(-1)));
        return all;
    }

    private static List<Refusal> whileItRuns() {
        List<Refusal> all = new ArrayList<>();
        all.add(new Refusal("task", STATE, k -> k.task(TASK, 1)));
        all.add(new Refusal("code", STATE, k -> k.code(TASK, END)));
        all.add(new Refusal("port", STATE, k -> k.port(1, -9, 9, 9)));
        all.add(new Refusal("port 2", STATE, k -> k.port(2, -900, 900, 500)));
        all.add(new Refusal("wire IN", STATE, k -> k.wire(TASK, 2, 0, IN)));
        all.add(new Refusal("wire OUT", STATE, k -> k.wire(TASK, 2, 9, OUT)));
        all.add(new Refusal("unwire", STATE, k -> k.wire(TASK, 1, 1, NONE)));
        all.add(new Refusal("mode", STATE, k -> k.mode(0, 2)));
        all.add(new Refusal("mode none", STATE, k -> k.mode(FULL_MODE, 0)));
        all.add(new Refusal("use", STATE, k -> k.use(0, TASK, 1)));
        all.add(new Refusal("use 0 times", STATE, k -> k.use(0, TASK, 0)));
        all.add(new Refusal("guard", STATE, k -> k.guard(0, 0, 4, -50, 2)));
        all.add(new Refusal("sense", STATE, k -> k.sense(1, 1)));
        all.add(new Refusal("sense none", STATE, k -> k.sense(0, NONE)));
        all.add(new Refusal("actuate", STATE, k -> k.actuate(1, 1)));
        all.add(new Refusal("actuate none", STATE, k -> k.actuate(0, NONE)));
        all.add(new Refusal("start", STATE, PeriodKernel::start));
        return all;
    }

    private static List<Refusal> whileNothingRuns() {
        List<Refusal> all = new ArrayList<>();
        for (int n : new int[] {0, 1, 2000}) {
            all.add(new Refusal("step(" + n + ")", STATE, k -> k.step(n)));
        }
        all.add(new Refusal("advance()", STATE, PeriodKernel::advance));
        return all;
    }

    private static void indexComesFirst() {
        eachIsRefused(built(), ofIndexes());
        eachIsRefused(running(), ofIndexes());
    }

    private static void argumentComesNext() {
        eachIsRefused(built(), ofArguments());
        eachIsRefused(running(), ofArguments());
    }

    private static void stateIfItRunsAlready() {
        PeriodKernel kernel = running();
        eachIsRefused(kernel, whileItRuns());
        pass(kernel, 5);
        eachIsRefused(kernel, whileItRuns());
        PeriodKernel faulty = new PeriodKernel();
        due("a fault", faulty.start(), 300);
        faulty.mode(0, 1);
        due("it did not run", faulty.start(), 0);
        refused("it runs", STATE, faulty::start);
    }

    private static void stateIfItDoesNotRunYet() {
        eachIsRefused(new PeriodKernel(), whileNothingRuns());
        PeriodKernel kernel = built();
        eachIsRefused(kernel, whileNothingRuns());
        kernel.mode(0, 0);
        due("a fault", kernel.start(), 300);
        eachIsRefused(kernel, whileNothingRuns());
        kernel.sensor(0, 1);
        due("pick(0) is not refused", kernel.pick(0), false);
        due("value(0) is not refused", kernel.value(0), 3);
    }

    /** All answers at the end of a story in which a call is refused at one point of it, or none. */
    private static List<Integer> story(Refusal refusal, int point, int end) {
        PeriodKernel kernel = built();
        for (int i = 0; i <= end; i++) {
            if (i == 1) {
                begin(kernel);
            } else if (i > 1) {
                kernel.sensor(0, 20 + (i - 1) % 3);
                kernel.pick(FULL_TASK);
                pass(kernel, 1);
            }
            if (i == point) {
                refused(refusal.what, refusal.how, () -> refusal.call.accept(kernel));
            }
        }
        return answers(kernel);
    }

    private static List<Integer> answers(PeriodKernel kernel) {
        List<Integer> all = new ArrayList<>();
        for (int i = 0; i < 16; i++) {
            all.add(kernel.value(i));
        }
        for (int i = 0; i < 8; i++) {
            all.add(kernel.actuator(i, 0));
            all.add(kernel.actuator(i, 1));
        }
        for (int what = 0; what <= 4; what++) {
            all.add(kernel.about(what));
        }
        for (int what = 0; what <= 16; what++) {
            all.add(kernel.job(TASK, what));
            all.add(kernel.job(1, what));
            all.add(kernel.job(FULL_TASK, what));
        }
        for (int i = 0; i <= kernel.about(3); i++) {
            for (int what = 0; what <= 3; what++) {
                all.add(kernel.event(i, what));
            }
        }
        return all;
    }

    private static void whatThrowsChangesNothing() {
        List<Refusal> always = new ArrayList<>(ofIndexes());
        always.addAll(ofArguments());
        for (Refusal refusal : always) {
            dueUndisturbed(refusal, BUILT);
            dueUndisturbed(refusal, STARTED);
            dueUndisturbed(refusal, LATER);
        }
        for (Refusal refusal : whileNothingRuns()) {
            dueUndisturbed(refusal, BUILT);
        }
        for (Refusal refusal : whileItRuns()) {
            dueUndisturbed(refusal, STARTED);
            dueUndisturbed(refusal, LATER);
        }
        advanceThatIsRefusedChangesNothing();
    }

    private static void dueUndisturbed(Refusal refusal, int point) {
        due("what is told right behind " + refusal.what,
                story(refusal, point, point).equals(story(null, NONE, point)), true);
        due("what is told long behind " + refusal.what,
                story(refusal, point, END_OF_STORY).equals(story(null, NONE, END_OF_STORY)), true);
    }

    private static void advanceThatIsRefusedChangesNothing() {
        PeriodKernel kernel = running();
        PeriodKernel twin = running();
        kernel.sensor(0, 33);
        twin.sensor(0, 33);
        kernel.advance();
        twin.advance();
        kernel.sensor(0, 44);
        twin.sensor(0, 44);
        refused("advance() before a job that is not done", STATE, kernel::advance);
        due("what is told right behind it", answers(kernel).equals(answers(twin)), true);
        pass(kernel, 3);
        pass(twin, 3);
        due("what is told long behind it", answers(kernel).equals(answers(twin)), true);
    }

    private static void noneIsMinus1() {
        due("NONE", PeriodKernel.NONE, -1);
    }
}
