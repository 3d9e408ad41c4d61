/** Promises 1 to 10: a new object, and the methods that build on it. */
final class BuildPromises extends Checks {
    static void read(Book book) {
        book.promise("1: A new object");
        book.sentence("Nothing is built", BuildPromises::newObjectHasNothingBuilt);
        book.promise("2: task");
        book.sentence("A task's budget", BuildPromises::taskTellsTheBudget);
        book.sentence("IllegalArgumentException: it is not 1 .. 200", BuildPromises::taskRefusesOtherBudgets);
        book.promise("3: code");
        book.sentence("One word more for a task's code: how many there are", BuildPromises::codeAnswersHowManyWords);
        book.sentence("IllegalArgumentException: there are 32", BuildPromises::codeRefusesWord33);
        book.promise("4: port");
        book.sentence("A port's least and greatest value, and the one that it has", BuildPromises::portTellsItsValues);
        book.sentence("IllegalArgumentException: the value is not between these", BuildPromises::portRefusesBeyond);
        readWire(book);
        book.promise("6: mode");
        book.sentence("A mode's period", BuildPromises::modeTellsThePeriod);
        book.sentence("IllegalArgumentException: it is not 0 .. 60", BuildPromises::modeRefusesOtherPeriods);
        book.promise("7: use");
        book.sentence("How often a task is used in a mode's period", BuildPromises::useTellsHowOften);
        book.sentence("IllegalArgumentException: it is not 0 .. 12", BuildPromises::useRefusesOtherNumbers);
        readGuard(book);
        book.promise("9: sense");
        book.sentence("A sensor is bound to a port, or to none (NONE)", BuildPromises::senseBindsOrUnbinds);
        book.promise("10: actuate");
        book.sentence("An actuator likewise", BuildPromises::actuateBindsOrUnbinds);
    }

    private static void readWire(Book book) {
        book.promise("5: wire");
        book.sentence("A slot is IN (way 0) or OUT (way 1) at a port", BuildPromises::wireIsInOrOut);
        book.sentence("(the other way, or another port, before)", BuildPromises::wireStandsForTheOneBefore);
        book.sentence("or unwired (way NONE", BuildPromises::wireNoneIsUnwired);
        book.sentence("the port must be one all the same)", BuildPromises::wireNoneNeedsAPort);
        book.sentence("IllegalArgumentException: another way", BuildPromises::wireRefusesOtherWays);
    }

    private static void readGuard(Book book) {
        book.promise("8: guard");
        book.sentence("One guard more of a mode: how many it has", BuildPromises::guardAnswersHowMany);
        book.sentence("how 0 .. 5: its port's value is below, not above, the same as, not the same as, not below, "
                + "above value", BuildPromises::guardComparesIn6Ways);
        book.sentence("to is a mode, too", BuildPromises::guardToIsAMode);
        book.sentence("IllegalArgumentException: another how", BuildPromises::guardRefusesAnotherHow);
        book.sentence("or there are 4", BuildPromises::guardRefusesAFifth);
    }

    private static void newObjectHasNothingBuilt() {
        PeriodKernel kernel = new PeriodKernel();
        dueAbout("about", kernel, NONE, NONE, NONE, 0, 0);
        for (int i = 0; i < 16; i++) {
            due("value(" + i + ")", kernel.value(i), 0);
        }
        for (int i = 0; i < 8; i++) {
            due("actuator(" + i + ", 0)", kernel.actuator(i, 0), 0);
            due("actuator(" + i + ", 1)", kernel.actuator(i, 1), 0);
            dueJob("job", kernel, i, 0, 0, NONE, NONE, 0, 0, 0, 0, 0, 0, 0, 0, 0, 0, 0, 0, 0, 0);
        }
        due("event(0, 0)", kernel.event(0, 0), NONE);
        due("start() without a mode", kernel.start(), 300);
        kernel.mode(0, 1);
        begin(kernel);
        pass(kernel, 3);
        dueAbout("no tasks are used, no guards are true, no events", kernel, 3, 0, 3, 0, 0);
        PeriodKernel other = new PeriodKernel();
        due("another object has nothing of the first", other.start(), 300);
        due("nor its time", other.about(0), NONE);
    }

    private static void taskTellsTheBudget() {
        PeriodKernel kernel = single(60, 5, word(JUMP, 0));
        kernel.use(0, 7, 2);
        code(kernel, 7, word(JUMP, 0));
        kernel.task(7, 30);
        kernel.task(7, 31);
        begin(kernel);
        due("of task 0", kernel.job(0, 0), 5);
        due("of task 7, told last", kernel.job(7, 0), 31);
    }

    private static void taskRefusesOtherBudgets() {
        PeriodKernel kernel = single(60, 5, END);
        kernel.task(0, 1);
        kernel.task(0, 200);
        for (int budget : new int[] {LEAST, -200, -1, 0, 201, 256, GREATEST}) {
            refused("task(0, " + budget + ")", ARGUMENT, () -> kernel.task(0, budget));
        }
        begin(kernel);
        due("the last that was taken", kernel.job(0, 0), 200);
        refused("task(0, 0) while it runs", ARGUMENT, () -> kernel.task(0, 0));
        refused("task(0, 201) while it runs", ARGUMENT, () -> kernel.task(0, 201));
        refused("task(0, 200) while it runs", STATE, () -> kernel.task(0, 200));
    }

    private static void codeAnswersHowManyWords() {
        PeriodKernel kernel = new PeriodKernel();
        for (int i = 1; i <= 32; i++) {
            for (int task = 0; task <= 7; task++) {
                due("word " + i + " of task " + task, kernel.code(task, i == 32 ? GREATEST : -i), i);
            }
        }
        PeriodKernel order = single(1, 9, word(PUSH, 8), word(PUSH, 3), SUB, END);
        begin(order);
        order.step(3);
        due("the words are in their order", order.job(0, 5), 5);
    }

    private static void codeRefusesWord33() {
        PeriodKernel kernel = single(1, 1);
        for (int i = 0; i < 32; i++) {
            kernel.code(0, END);
        }
        for (int word : new int[] {LEAST, END, 17, GREATEST}) {
            refused("code(0, " + word + ")", ARGUMENT, () -> kernel.code(0, word));
        }
        due("another task has room", kernel.code(1, END), 1);
        begin(kernel);
        refused("word 33 while it runs", ARGUMENT, () -> kernel.code(0, END));
        refused("word 2 while it runs", STATE, () -> kernel.code(1, END));
    }

    private static void portTellsItsValues() {
        PeriodKernel kernel = single(1, 1, END);
        kernel.port(0, -20, -10, -15);
        kernel.port(15, 10, 20, 15);
        due("port 0 has", kernel.value(0), -15);
        due("port 15 has", kernel.value(15), 15);
        kernel.port(15, 30, 40, 35);
        due("port 15, told again, has", kernel.value(15), 35);
        kernel.sense(0, 0);
        kernel.sense(1, 15);
        kernel.sensor(0, -21);
        kernel.sensor(1, 41);
        begin(kernel);
        due("the least of port 0", kernel.value(0), -20);
        due("the greatest of port 15", kernel.value(15), 40);
        kernel.sensor(0, -9);
        kernel.sensor(1, 29);
        pass(kernel, 1);
        due("the greatest of port 0", kernel.value(0), -10);
        due("the least of port 15", kernel.value(15), 30);
    }

    private static void portRefusesBeyond() {
        PeriodKernel kernel = new PeriodKernel();
        int[][] right = {{0, 0, 0}, {-3, 9, -3}, {-3, 9, 9}, {LEAST, GREATEST, 0}, {LEAST, LEAST, LEAST},
            {GREATEST, GREATEST, GREATEST}, {LEAST, GREATEST, LEAST}, {LEAST, GREATEST, GREATEST}};
        for (int[] r : right) {
            kernel.port(3, r[0], r[1], r[2]);
            due("port(3, " + r[0] + ", " + r[1] + ", " + r[2] + ")", kernel.value(3), r[2]);
        }
        kernel.port(3, 1, 3, 2);
        int[][] wrong = {{0, 0, 1}, {0, 0, -1}, {-3, 9, -4}, {-3, 9, 10}, {1, 0, 0}, {1, 0, 1}, {5, -5, 0},
            {GREATEST, LEAST, 0}, {0, GREATEST, LEAST}, {LEAST, 0, GREATEST}, {LEAST, -1, 0}};
        for (int[] w : wrong) {
            refused("port(3, " + w[0] + ", " + w[1] + ", " + w[2] + ")", ARGUMENT,
                    () -> kernel.port(3, w[0], w[1], w[2]));
        }
        due("as it was", kernel.value(3), 2);
    }

    private static void wireIsInOrOut() {
        PeriodKernel kernel = single(1, 9, word(GET, 0), word(SET, 5), END);
        kernel.port(14, 0, 99, 60);
        kernel.port(15, 0, 99, 70);
        kernel.wire(0, 0, 14, 0);
        kernel.wire(0, 5, 15, 1);
        due("IN, never latched", kernel.job(0, 11), 0);
        due("OUT holds its port's value", kernel.job(0, 16), 70);
        begin(kernel);
        due("IN is latched", kernel.job(0, 11), 60);
        pass(kernel, 1);
        due("IN is read", kernel.value(14), 60);
        due("OUT is written", kernel.value(15), 60);
    }

    private static void wireStandsForTheOneBefore() {
        PeriodKernel kernel = single(1, 9, word(GET, 0), word(SET, 1), END);
        for (int port = 0; port <= 3; port++) {
            kernel.port(port, 0, 99, 10 * port);
        }
        kernel.wire(0, 0, 3, OUT);
        kernel.wire(0, 0, 3, IN);
        due("OUT before, now IN", kernel.job(0, 11), 0);
        kernel.wire(0, 0, 2, IN);
        kernel.wire(0, 1, 1, IN);
        kernel.wire(0, 1, 1, OUT);
        due("IN before, now OUT", kernel.job(0, 12), 10);
        kernel.wire(0, 1, 3, OUT);
        due("at another port before", kernel.job(0, 12), 30);
        begin(kernel);
        pass(kernel, 1);
        dueEvent("from port 2 to port 3", kernel, 0, 1, 3, 20, 0);
        due("once", kernel.about(3), 1);
        due("nothing at the port before", kernel.value(1), 10);
    }

    private static void wireNoneIsUnwired() {
        PeriodKernel kernel = single(1, 1, END);
        kernel.port(4, 0, 9, 7);
        kernel.wire(0, 0, 4, OUT);
        kernel.wire(0, 1, 4, IN);
        kernel.wire(0, 0, 4, NONE);
        kernel.wire(0, 1, 9, NONE);
        kernel.wire(0, 2, 4, NONE);
        begin(kernel);
        dueJob("they have latched and hold nothing", kernel, 0, 11, 0, 0, 0);
        pass(kernel, 2);
        due("none is published", kernel.about(3), 0);
        dueJob("nor later", kernel, 0, 11, 0, 0, 0);
        PeriodKernel get = single(1, 1, word(GET, 0), END);
        get.wire(0, 0, 0, IN);
        get.wire(0, 0, 0, NONE);
        due("GET of it", get.start(), 200);
    }

    private static void wireNoneNeedsAPort() {
        PeriodKernel kernel = new PeriodKernel();
        kernel.port(4, 0, 9, 7);
        kernel.wire(0, 0, 4, OUT);
        for (int port : new int[] {LEAST, NONE, 16, GREATEST}) {
            refused("unwired at port " + port, INDEX, () -> kernel.wire(0, 0, port, NONE));
        }
        due("it is wired still", kernel.job(0, 11), 7);
        kernel.wire(0, 0, 15, NONE);
        due("unwired at any port", kernel.job(0, 11), 0);
    }

    private static void wireRefusesOtherWays() {
        PeriodKernel kernel = new PeriodKernel();
        kernel.port(4, 0, 9, 7);
        kernel.wire(0, 0, 4, OUT);
        for (int way : new int[] {LEAST, -2, 2, 3, GREATEST}) {
            refused("way " + way, ARGUMENT, () -> kernel.wire(0, 0, 5, way));
        }
        due("it is wired as it was", kernel.job(0, 11), 7);
    }

    private static void modeTellsThePeriod() {
        PeriodKernel kernel = single(7, 1, END);
        kernel.mode(0, 5);
        kernel.mode(2, 3);
        kernel.use(2, 0, 1);
        kernel.guard(0, 0, 2, 0, 2);
        begin(kernel);
        due("of mode 0, told last", kernel.job(0, 2), 5);
        pass(kernel, 5);
        due("of mode 2", kernel.job(0, 2), 8);
    }

    private static void modeRefusesOtherPeriods() {
        PeriodKernel kernel = single(7, 1, END);
        for (int period : new int[] {LEAST, -60, -1, 61, 64, GREATEST}) {
            refused("mode(0, " + period + ")", ARGUMENT, () -> kernel.mode(0, period));
        }
        kernel.mode(0, 0);
        due("0: it is none", kernel.start(), 300);
        kernel.mode(0, 60);
        begin(kernel);
        due("60", kernel.job(0, 2), 60);
        refused("mode(0, -1) while it runs", ARGUMENT, () -> kernel.mode(0, -1));
        refused("mode(0, 61) while it runs", ARGUMENT, () -> kernel.mode(0, 61));
        refused("mode(0, 0) while it runs", STATE, () -> kernel.mode(0, 0));
    }

    private static void useTellsHowOften() {
        PeriodKernel kernel = single(12, 1, END);
        kernel.code(7, END);
        kernel.mode(3, 6);
        kernel.use(0, 0, 3);
        kernel.use(0, 0, 2);
        kernel.use(0, 7, 12);
        kernel.use(3, 0, 6);
        kernel.guard(0, 0, 2, 0, 3);
        begin(kernel);
        due("task 0, told last", kernel.job(0, 2), 6);
        due("task 7", kernel.job(7, 2), 1);
        pass(kernel, 12);
        due("task 0 in mode 3", kernel.job(0, 2), 13);
        due("task 7 in mode 3", kernel.job(7, 2), NONE);
    }

    private static void useRefusesOtherNumbers() {
        PeriodKernel kernel = single(12, 1, END);
        kernel.use(0, 0, 12);
        for (int often : new int[] {LEAST, -12, -1, 13, 60, GREATEST}) {
            refused("use(0, 0, " + often + ")", ARGUMENT, () -> kernel.use(0, 0, often));
        }
        kernel.use(0, 1, 12);
        kernel.use(0, 1, 0);
        begin(kernel);
        due("12 times", kernel.job(0, 2), 1);
        due("0 times: not used, and without a code", kernel.job(1, 2), NONE);
        refused("use(0, 0, -1) while it runs", ARGUMENT, () -> kernel.use(0, 0, -1));
        refused("use(0, 0, 13) while it runs", ARGUMENT, () -> kernel.use(0, 0, 13));
        refused("use(0, 0, 0) while it runs", STATE, () -> kernel.use(0, 0, 0));
    }

    private static void guardAnswersHowMany() {
        PeriodKernel kernel = new PeriodKernel();
        for (int i = 1; i <= 4; i++) {
            for (int mode = 0; mode <= 3; mode++) {
                due("guard " + i + " of mode " + mode, kernel.guard(mode, 15, i, LEAST, 3), i);
            }
        }
    }

    private static void guardComparesIn6Ways() {
        int[][] pairs = {{-3, -2}, {-2, -2}, {-1, -2}, {LEAST, GREATEST}, {GREATEST, LEAST}, {LEAST, LEAST},
            {GREATEST, GREATEST}, {0, LEAST}, {0, 0}};
        for (int[] pair : pairs) {
            boolean[] want = {pair[0] < pair[1], pair[0] <= pair[1], pair[0] == pair[1], pair[0] != pair[1],
                pair[0] >= pair[1], pair[0] > pair[1]};
            for (int how = 0; how <= 5; how++) {
                PeriodKernel kernel = new PeriodKernel();
                kernel.mode(0, 1);
                kernel.mode(1, 1);
                kernel.port(9, LEAST, GREATEST, pair[0]);
                kernel.guard(0, 9, how, pair[1], 1);
                begin(kernel);
                pass(kernel, 1);
                due(pair[0] + " to " + pair[1] + ", how " + how, kernel.about(1), want[how] ? 1 : 0);
            }
        }
    }

    private static void guardToIsAMode() {
        PeriodKernel kernel = new PeriodKernel();
        for (int to : new int[] {LEAST, NONE, 4, GREATEST}) {
            refused("to " + to, INDEX, () -> kernel.guard(0, 0, 0, 0, to));
            refused("to " + to + ", and another how", INDEX, () -> kernel.guard(0, 0, 6, 0, to));
        }
        for (int to = 0; to <= 3; to++) {
            due("to " + to, kernel.guard(0, 0, 0, 0, to), to + 1);
        }
        refused("to 4, and there are 4", INDEX, () -> kernel.guard(0, 0, 0, 0, 4));
    }

    private static void guardRefusesAnotherHow() {
        PeriodKernel kernel = new PeriodKernel();
        for (int how : new int[] {LEAST, -1, 6, 7, GREATEST}) {
            refused("how " + how, ARGUMENT, () -> kernel.guard(0, 0, how, 0, 0));
        }
        due("none was added", kernel.guard(0, 0, 0, 0, 0), 1);
        due("how 5", kernel.guard(0, 0, 5, 0, 0), 2);
    }

    private static void guardRefusesAFifth() {
        PeriodKernel kernel = new PeriodKernel();
        kernel.mode(0, 1);
        kernel.mode(1, 1);
        for (int i = 1; i <= 4; i++) {
            kernel.guard(0, 0, 3, 0, 1);
        }
        refused("a fifth", ARGUMENT, () -> kernel.guard(0, 0, 2, 0, 1));
        due("another mode has room", kernel.guard(1, 0, 2, 0, 0), 1);
        begin(kernel);
        pass(kernel, 1);
        due("the fifth is not heeded", kernel.about(1), 0);
        refused("a fifth while it runs", ARGUMENT, () -> kernel.guard(0, 0, 2, 0, 1));
        refused("a second while it runs", STATE, () -> kernel.guard(1, 0, 2, 0, 1));
    }

    private static void senseBindsOrUnbinds() {
        PeriodKernel kernel = single(1, 1, END);
        for (int port = 0; port <= 3; port++) {
            kernel.port(port, 0, 99, port);
            kernel.sensor(port, 50 + port);
        }
        kernel.sense(0, 0);
        kernel.sense(0, 3);
        kernel.sense(1, 1);
        kernel.sense(1, NONE);
        kernel.sense(2, NONE);
        for (int port : new int[] {LEAST, -2, 16, GREATEST}) {
            refused("sense(0, " + port + ")", INDEX, () -> kernel.sense(0, port));
        }
        begin(kernel);
        int[] values = {0, 1, 2, 50};
        for (int port = 0; port <= 3; port++) {
            due("port " + port, kernel.value(port), values[port]);
        }
    }

    private static void actuateBindsOrUnbinds() {
        PeriodKernel kernel = single(1, 1, END);
        for (int port = 0; port <= 3; port++) {
            kernel.port(port, 0, 99, 50 + port);
        }
        kernel.actuate(0, 0);
        kernel.actuate(0, 3);
        kernel.actuate(1, 1);
        kernel.actuate(1, NONE);
        kernel.actuate(2, NONE);
        kernel.actuate(7, 3);
        for (int port : new int[] {LEAST, -2, 16, GREATEST}) {
            refused("actuate(0, " + port + ")", INDEX, () -> kernel.actuate(0, port));
        }
        due("before it starts", kernel.actuator(0, 0), 0);
        begin(kernel);
        int[] values = {53, 0, 0, 0, 0, 0, 0, 53};
        for (int actuator = 0; actuator <= 7; actuator++) {
            due("actuator " + actuator, kernel.actuator(actuator, 0), values[actuator]);
        }
    }
}
