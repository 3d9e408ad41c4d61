/** "RUNNING" and its "INSTANT" with the five parts, each before the next. */
final class InstantSentences extends Checks {
    static void read(Book book) {
        book.sentence("RUNNING begins with mode 0 at time 0", InstantSentences::beginsWithMode0AtTime0);
        book.sentence("An INSTANT, at each time", InstantSentences::anInstantAtEachTime);
        readPart1(book);
        book.sentence("(2) Each bound actuator has its port's value", InstantSentences::actuatorHasItsPortsValue);
        book.sentence("if that is another one than it had, its CHANGE is now", InstantSentences::changeIsNow);
        book.sentence("(0 at first, and at time 0)", InstantSentences::changeIs0AtFirstAndAtTime0);
        book.sentence("(3) Each bound sensor's value becomes its port's", InstantSentences::sensorBecomesItsPorts);
        book.sentence("the nearer end if it is beyond", InstantSentences::sensedIsTheNearerEnd);
        book.sentence("(4) At the end of the mode's period", InstantSentences::guardsAtTheEndOfThePeriod);
        book.sentence("(and not at time 0)", InstantSentences::guardsNotAtTime0);
        book.sentence("the first of its guards that is true says the mode from now on",
                InstantSentences::firstTrueGuardSaysTheMode);
        book.sentence("else it stays", InstantSentences::elseTheModeStays);
        book.sentence("its period begins now", InstantSentences::periodBeginsNow);
        book.sentence("(5) Tasks that are used and released now", InstantSentences::tasksUsedAndReleasedNow);
        book.sentence("a job with as many steps as its budget", InstantSentences::asManyStepsAsItsBudget);
        book.sentence("its IN slots' ports are latched", InstantSentences::inSlotsAreLatched);
        book.sentence("word 0 and an empty stack", InstantSentences::word0AndAnEmptyStack);
    }

    private static void readPart1(Book book) {
        book.sentence("(1) each job that is to be published now, by tasks", InstantSentences::publishedByTasks);
        book.sentence("which is gone then", InstantSentences::jobIsGoneThen);
        book.sentence("what its OUT slots (0 on) hold becomes their ports' value",
                InstantSentences::heldBecomesThePortsValue);
        book.sentence("the nearer end if it is beyond", InstantSentences::publishedIsTheNearerEnd);
        book.sentence("that is an EVENT each", InstantSentences::thatIsAnEventEach);
        book.sentence("time, port, value, and 1 if the job OVERRAN, else 0", InstantSentences::eventTellsOfOverrun);
    }

    /** Task t adds one to its local 0 in each job and sets slot 0, at that port, to it. */
    private static void counter(PeriodKernel kernel, int task, int port) {
        code(kernel, task, word(LOAD, 0), word(PUSH, 1), ADD, DUP, word(STORE, 0), word(SET, 0), END);
        kernel.task(task, 7);
        kernel.port(port, 0, 1000, 0);
        kernel.wire(task, 0, port, OUT);
    }

    private static void beginsWithMode0AtTime0() {
        PeriodKernel kernel = single(5, 1, END);
        for (int mode = 1; mode <= 3; mode++) {
            kernel.mode(mode, 1);
            kernel.use(mode, 0, 1);
        }
        begin(kernel);
        dueAbout("behind start()", kernel, 0, 0, 0);
        dueJob("its job", kernel, 0, 1, 0, 5);
    }

    private static void anInstantAtEachTime() {
        PeriodKernel kernel = single(7, 1, END);
        kernel.port(0, -99, 99, 0);
        kernel.sense(0, 0);
        kernel.actuate(0, 0);
        kernel.sensor(0, 50);
        begin(kernel);
        for (int time = 1; time <= 9; time++) {
            kernel.sensor(0, 50 + time);
            pass(kernel, 1);
            due("sensed at " + time, kernel.value(0), 50 + time);
            due("actuated at " + time, kernel.actuator(0, 0), 49 + time);
        }
    }

    private static void publishedByTasks() {
        PeriodKernel kernel = new PeriodKernel();
        kernel.mode(0, 6);
        for (int task = 7; task >= 0; task--) {
            kernel.code(task, END);
            kernel.use(0, task, task % 2 == 0 ? 2 : 3);
            kernel.wire(task, 0, 15 - task, OUT);
        }
        begin(kernel);
        pass(kernel, 6);
        int[][] due = {{2, 1}, {2, 3}, {2, 5}, {2, 7}, {3, 0}, {3, 2}, {3, 4}, {3, 6}, {4, 1}, {4, 3}, {4, 5}, {4, 7},
            {6, 0}, {6, 1}, {6, 2}, {6, 3}, {6, 4}, {6, 5}, {6, 6}, {6, 7}};
        for (int i = 0; i < due.length; i++) {
            dueEvent("of task " + due[i][1], kernel, i, due[i][0], 15 - due[i][1], 0, 0);
        }
        due("no more", kernel.about(3), due.length);
    }

    private static void jobIsGoneThen() {
        PeriodKernel kernel = single(2, 2, word(PUSH, 4), word(PUSH, 5), END);
        kernel.mode(1, 2);
        kernel.guard(0, 0, 2, 0, 1);
        begin(kernel);
        kernel.step(2000);
        kernel.advance();
        dueJob("before", kernel, 0, 0, 0, 0, 2, 2, 2, 5, 0, 0, 0, 0, 1);
        kernel.advance();
        dueJob("gone", kernel, 0, 0, 0, NONE, NONE, 0, 0, 0, 0, 0, 0, 0, 0);
        due("pick(0)", kernel.pick(0), false);
        due("jobs not done", kernel.about(4), 0);
        pass(kernel, 2);
        dueJob("still gone", kernel, 0, 0, 0, NONE, NONE, 0, 0, 0, 0, 0, 0, 0, 0);
    }

    private static void heldBecomesThePortsValue() {
        PeriodKernel kernel = single(2, 20, word(PUSH, 30), word(SET, 0), word(PUSH, 35), word(SET, 5), END);
        for (int slot = 0; slot <= 5; slot++) {
            kernel.port(10 - slot, 0, 99, 60 + slot);
            kernel.wire(0, slot, 10 - slot, slot == 2 ? IN : OUT);
        }
        kernel.wire(0, 3, 7, NONE);
        begin(kernel);
        kernel.step(2000);
        kernel.advance();
        due("one time before", kernel.value(10), 60);
        kernel.advance();
        int[] values = {30, 61, 62, 63, 64, 35};
        for (int slot = 0; slot <= 5; slot++) {
            due("port of slot " + slot, kernel.value(10 - slot), values[slot]);
        }
        int[] slots = {0, 1, 4, 5};
        for (int i = 0; i < 4; i++) {
            dueEvent("of slot " + slots[i], kernel, i, 2, 10 - slots[i], values[slots[i]], 0);
        }
        due("no more", kernel.about(3), 4);
    }

    /** What is published of a value by a port from least to greatest. */
    private static int published(int least, int greatest, int value) {
        PeriodKernel kernel = single(1, 9, word(PUSH, value), word(SET, 0), END);
        kernel.port(0, least, greatest, least);
        kernel.wire(0, 0, 0, OUT);
        begin(kernel);
        pass(kernel, 1);
        due("the event's value is the port's", kernel.event(0, 2), kernel.value(0));
        return kernel.value(0);
    }

    private static void publishedIsTheNearerEnd() {
        int[] values = {-33554432, -31, -30, -29, 0, 29, 30, 31, 33554431};
        int[] due = {-30, -30, -30, -29, 0, 29, 30, 30, 30};
        for (int i = 0; i < values.length; i++) {
            due(values[i] + " of -30 .. 30", published(-30, 30, values[i]), due[i]);
            due(values[i] + " of 8 .. 8", published(8, 8, values[i]), 8);
            due(values[i] + " of all ints", published(LEAST, GREATEST, values[i]), values[i]);
        }
        due("above all below 0", published(-20, -10, 0), -10);
        due("below all above 0", published(10, 20, 0), 10);
    }

    private static void thatIsAnEventEach() {
        PeriodKernel kernel = single(3, 1, END);
        kernel.wire(0, 1, 1, OUT);
        kernel.wire(0, 4, 4, OUT);
        kernel.wire(0, 5, 5, IN);
        kernel.use(0, 2, 3);
        kernel.code(2, END);
        begin(kernel);
        due("none at time 0", kernel.about(3), 0);
        pass(kernel, 2);
        due("none of a task without OUT slots", kernel.about(3), 0);
        pass(kernel, 1);
        due("one of each OUT slot", kernel.about(3), 2);
        pass(kernel, 3);
        due("though the values are the same", kernel.about(3), 4);
    }

    private static void eventTellsOfOverrun() {
        PeriodKernel kernel = single(2, 2, word(LOAD, 0), word(SKIP, 3), END, word(PUSH, 1), word(STORE, 0), END);
        kernel.task(0, 3);
        kernel.port(9, 0, 99, 70);
        kernel.wire(0, 2, 9, OUT);
        kernel.use(0, 1, 2);
        code(kernel, 1, word(PUSH, 1), END);
        kernel.task(1, 1);
        kernel.wire(1, 0, 8, OUT);
        kernel.use(0, 2, 1);
        code(kernel, 2, word(PUSH, 1), END);
        kernel.task(2, 2);
        kernel.wire(2, 0, 7, OUT);
        begin(kernel);
        pass(kernel, 2);
        dueEvent("task 1 overran", kernel, 0, 1, 8, 0, 1);
        dueEvent("task 0 overran", kernel, 1, 2, 9, 70, 1);
        dueEvent("task 1 overran again", kernel, 2, 2, 8, 0, 1);
        dueEvent("task 2 came to END with its last step", kernel, 3, 2, 7, 0, 0);
    }

    private static void actuatorHasItsPortsValue() {
        PeriodKernel kernel = new PeriodKernel();
        kernel.mode(0, 2);
        kernel.use(0, 0, 1);
        counter(kernel, 0, 3);
        kernel.port(4, -9, 9, -6);
        kernel.actuate(0, 3);
        kernel.actuate(6, 4);
        kernel.actuate(7, 3);
        begin(kernel);
        due("at time 0", kernel.actuator(6, 0), -6);
        for (int time = 1; time <= 6; time++) {
            pass(kernel, 1);
            due("published in this very instant, at " + time, kernel.actuator(0, 0), time / 2);
            due("another one at the same port", kernel.actuator(7, 0), time / 2);
            due("one at another port", kernel.actuator(6, 0), -6);
            due("one that is not bound", kernel.actuator(5, 0), 0);
        }
    }

    private static void changeIsNow() {
        PeriodKernel kernel = single(1, 9, word(GET, 0), word(SET, 1), END);
        kernel.port(0, 0, 9, 0);
        kernel.port(1, 0, 9, 0);
        kernel.wire(0, 0, 0, IN);
        kernel.wire(0, 1, 1, OUT);
        kernel.sense(0, 0);
        kernel.actuate(3, 1);
        kernel.actuate(4, 2);
        begin(kernel);
        int[] sensed = {5, 5, 5, 7, 7, 0, 0, 0};
        int[] values = {0, 5, 5, 5, 7, 7, 0, 0};
        int[] changes = {0, 2, 2, 2, 5, 5, 7, 7};
        for (int i = 0; i < sensed.length; i++) {
            kernel.sensor(0, sensed[i]);
            pass(kernel, 1);
            due("value at " + (i + 1), kernel.actuator(3, 0), values[i]);
            due("CHANGE at " + (i + 1), kernel.actuator(3, 1), changes[i]);
            due("CHANGE of one that stays, at " + (i + 1), kernel.actuator(4, 1), 0);
        }
    }

    private static void changeIs0AtFirstAndAtTime0() {
        PeriodKernel kernel = single(1, 1, END);
        kernel.port(0, 0, 9, 7);
        kernel.actuate(0, 0);
        for (int actuator = 0; actuator <= 7; actuator++) {
            due("actuator " + actuator + " at first", kernel.actuator(actuator, 1), 0);
        }
        begin(kernel);
        due("it has another value at time 0", kernel.actuator(0, 0), 7);
        for (int actuator = 0; actuator <= 7; actuator++) {
            due("actuator " + actuator + " at time 0", kernel.actuator(actuator, 1), 0);
        }
        pass(kernel, 3);
        due("it has the same since", kernel.actuator(0, 1), 0);
    }

    private static void sensorBecomesItsPorts() {
        PeriodKernel kernel = single(9, 1, END);
        kernel.port(2, -99, 99, 5);
        kernel.port(3, -99, 99, 6);
        kernel.sense(7, 2);
        kernel.actuate(0, 2);
        kernel.sensor(7, -40);
        kernel.sensor(3, 44);
        begin(kernel);
        due("at time 0", kernel.value(2), -40);
        due("behind the actuators", kernel.actuator(0, 0), 5);
        kernel.sensor(7, 41);
        due("not before the next instant", kernel.value(2), -40);
        pass(kernel, 1);
        due("at time 1", kernel.value(2), 41);
        due("the port that none is bound to", kernel.value(3), 6);
        due("it is no event", kernel.about(3), 0);
    }

    private static void sensedIsTheNearerEnd() {
        int[] values = {LEAST, -31, -30, -29, 29, 30, 31, GREATEST};
        int[] due = {-30, -30, -30, -29, 29, 30, 30, 30};
        PeriodKernel kernel = single(9, 1, END);
        kernel.port(0, -30, 30, 0);
        kernel.port(1, 8, 8, 8);
        kernel.port(2, LEAST, GREATEST, 0);
        for (int i = 0; i < 3; i++) {
            kernel.sense(i, i);
        }
        begin(kernel);
        due("0 of 8 .. 8", kernel.value(1), 8);
        for (int i = 0; i < values.length; i++) {
            for (int sensor = 0; sensor < 3; sensor++) {
                kernel.sensor(sensor, values[i]);
            }
            pass(kernel, 1);
            due(values[i] + " of -30 .. 30", kernel.value(0), due[i]);
            due(values[i] + " of 8 .. 8", kernel.value(1), 8);
            due(values[i] + " of all ints", kernel.value(2), values[i]);
        }
    }

    private static void guardsAtTheEndOfThePeriod() {
        PeriodKernel kernel = new PeriodKernel();
        kernel.mode(0, 4);
        kernel.mode(1, 3);
        kernel.port(0, 0, 9, 0);
        kernel.sense(0, 0);
        kernel.guard(0, 0, 2, 1, 1);
        kernel.guard(1, 0, 2, 1, 0);
        begin(kernel);
        int[] sensed = {1, 1, 1, 0, 1, 1, 1, 1, 1, 1, 1, 0, 0, 1};
        int[] modes = {0, 0, 0, 0, 0, 0, 0, 1, 1, 1, 0, 0, 0, 0};
        int[] begins = {0, 0, 0, 4, 4, 4, 4, 8, 8, 8, 11, 11, 11, 11};
        for (int i = 0; i < sensed.length; i++) {
            kernel.sensor(0, sensed[i]);
            pass(kernel, 1);
            dueAbout("true: " + sensed[i], kernel, i + 1, modes[i], begins[i]);
        }
    }

    private static void guardsNotAtTime0() {
        for (int period : new int[] {1, 2, 60}) {
            PeriodKernel kernel = single(period, 1, END);
            kernel.mode(3, 1);
            kernel.guard(0, 0, 2, 0, 3);
            begin(kernel);
            dueAbout("at time 0", kernel, 0, 0, 0);
            dueJob("a job of mode 0", kernel, 0, 0, 1, 0, period);
        }
    }

    private static void firstTrueGuardSaysTheMode() {
        for (int first = 1; first <= 4; first++) {
            PeriodKernel kernel = new PeriodKernel();
            for (int mode = 0; mode <= 3; mode++) {
                kernel.mode(mode, 2);
            }
            for (int i = 1; i <= 4; i++) {
                kernel.guard(0, 0, i < first ? 3 : 2, 0, i == first ? 2 : 1 + i % 2 * 2);
            }
            begin(kernel);
            pass(kernel, 2);
            dueAbout("guard " + first, kernel, 2, 2, 2);
            pass(kernel, 2);
            dueAbout("from now on, without guards", kernel, 4, 2, 4);
        }
        PeriodKernel itself = new PeriodKernel();
        itself.mode(0, 1);
        itself.mode(1, 1);
        itself.guard(0, 0, 2, 0, 0);
        itself.guard(0, 0, 2, 0, 1);
        begin(itself);
        pass(itself, 2);
        dueAbout("to itself", itself, 2, 0, 2);
    }

    private static void elseTheModeStays() {
        PeriodKernel kernel = new PeriodKernel();
        for (int mode = 0; mode <= 3; mode++) {
            kernel.mode(mode, 1);
        }
        kernel.guard(0, 0, 3, 0, 3);
        kernel.guard(0, 1, 0, 0, 2);
        kernel.guard(1, 0, 2, 0, 3);
        begin(kernel);
        pass(kernel, 4);
        dueAbout("none of its guards is true", kernel, 4, 0, 4);
    }

    private static void periodBeginsNow() {
        PeriodKernel kernel = new PeriodKernel();
        kernel.mode(0, 3);
        kernel.mode(2, 5);
        kernel.guard(0, 0, 2, 0, 2);
        begin(kernel);
        int[] begins = {0, 0, 0, 3, 3, 3, 3, 3, 8, 8, 8, 8, 8, 13};
        for (int time = 0; time < begins.length; time++) {
            due("the period began, at " + time, kernel.about(2), begins[time]);
            pass(kernel, 1);
        }
    }

    private static void tasksUsedAndReleasedNow() {
        PeriodKernel kernel = new PeriodKernel();
        kernel.mode(0, 4);
        kernel.mode(1, 6);
        for (int task = 0; task <= 3; task++) {
            kernel.code(task, END);
        }
        kernel.use(0, 0, 1);
        kernel.use(0, 1, 2);
        kernel.use(1, 1, 3);
        kernel.use(1, 2, 2);
        kernel.guard(0, 0, 2, 0, 1);
        begin(kernel);
        int[][] released = {{0, 0, 0, 0, NONE, NONE, NONE, NONE, NONE, NONE, NONE},
            {0, 0, 2, 2, 4, 4, 6, 6, 8, 8, 10}, {NONE, NONE, NONE, NONE, 4, 4, 4, 7, 7, 7, 10},
            {NONE, NONE, NONE, NONE, NONE, NONE, NONE, NONE, NONE, NONE, NONE}};
        for (int time = 0; time <= 10; time++) {
            for (int task = 0; task <= 3; task++) {
                due("task " + task + " at " + time, kernel.job(task, 1), released[task][time]);
                due("it is not done, at " + time, kernel.job(task, 0), released[task][time] == time ? 1 : 0);
            }
            pass(kernel, 1);
        }
    }

    private static void asManyStepsAsItsBudget() {
        for (int budget : new int[] {1, 2, 60, 199, 200}) {
            PeriodKernel kernel = single(10, budget, word(JUMP, 0));
            begin(kernel);
            due("steps left", kernel.job(0, 0), budget);
            due("steps", kernel.step(2000), budget);
            pass(kernel, 10);
            due("steps left of the next job", kernel.job(0, 0), budget);
            due("steps of the next job", kernel.step(2000), budget);
        }
    }

    private static void inSlotsAreLatched() {
        PeriodKernel kernel = single(4, 1, END);
        kernel.use(0, 0, 2);
        kernel.use(0, 1, 4);
        counter(kernel, 1, 5);
        kernel.port(6, 0, 99, 0);
        kernel.wire(0, 0, 5, IN);
        kernel.wire(0, 4, 6, IN);
        kernel.wire(0, 5, 6, IN);
        kernel.sense(2, 6);
        kernel.sensor(2, 20);
        dueJob("never latched", kernel, 0, 11, 0, 0, 0, 0, 0, 0);
        begin(kernel);
        for (int time = 0; time <= 5; time++) {
            int at = time / 2 * 2;
            dueJob("at " + time, kernel, 0, 11, at, 0, 0, 0, 20 + at, 20 + at);
            kernel.sensor(2, 21 + time);
            pass(kernel, 1);
        }
    }

    private static void word0AndAnEmptyStack() {
        PeriodKernel kernel = single(1, 4, word(PUSH, 1), word(PUSH, 2), word(PUSH, 3), word(JUMP, 3));
        begin(kernel);
        for (int time = 0; time <= 2; time++) {
            dueJob("released at " + time, kernel, 0, 0, 4, time, time + 1, 0, 0, 0);
            due("not overrun yet", kernel.job(0, 10), 0);
            due("steps", kernel.step(2000), 4);
            dueJob("run at " + time, kernel, 0, 3, 3, 3, 3);
            kernel.advance();
        }
    }
}
