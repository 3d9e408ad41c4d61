/** "Between instants": steps, DONE, OVERRAN, and what an OUT slot holds. */
final class StepSentences extends Checks {
    static void read(Book book) {
        book.sentence("Between instants jobs are run STEP by step, a word each", StepSentences::aWordEachStep);
        book.sentence("A job is DONE behind END", StepSentences::doneBehindEnd);
        book.sentence("or behind its last step", StepSentences::doneBehindItsLastStep);
        book.sentence("in that case, if the word was not END, it OVERRAN", StepSentences::overranIfNotEnd);
        book.sentence("What an OUT slot holds is what it held", StepSentences::outSlotHoldsOn);
        book.sentence("(its port's value when it was wired, at first)", StepSentences::outSlotHoldsItsPortsAtFirst);
        book.sentence("or was SET to since", StepSentences::outSlotHoldsWhatItWasSetTo);
    }

    private static void aWordEachStep() {
        PeriodKernel kernel = single(3, 9, word(PUSH, 1), word(PUSH, 2), ADD, word(JUMP, 5), END, DROP, END);
        begin(kernel);
        int[][] want = {{8, 1, 1, 1}, {7, 2, 2, 2}, {6, 3, 1, 3}, {5, 5, 1, 3}, {4, 6, 0, 0}, {0, 7, 0, 0}};
        for (int i = 0; i < want.length; i++) {
            due("step " + i, i % 2 == 0 ? kernel.step(1) : kernel.pick(0) ? 1 : 0, 1);
            due("steps left behind step " + i, kernel.job(0, 0), want[i][0]);
            dueJob("behind step " + i, kernel, 0, 3, want[i][1], want[i][2], want[i][3]);
            if (i == 2) {
                kernel.advance();
                dueJob("an instant changes none of it", kernel, 0, 0, 6, 0, 3, 3, 1, 3);
            }
        }
    }

    private static void doneBehindEnd() {
        PeriodKernel kernel = single(2, 40, word(PUSH, 1), END, END);
        begin(kernel);
        kernel.pick(0);
        due("not done before END", kernel.about(4), 1);
        due("steps left", kernel.job(0, 0), 39);
        kernel.pick(0);
        due("done behind END", kernel.about(4), 0);
        due("no steps left", kernel.job(0, 0), 0);
        due("no more steps", kernel.pick(0), false);
        due("it did not overrun", kernel.job(0, 10), 0);
    }

    private static void doneBehindItsLastStep() {
        for (int budget : new int[] {1, 2, 3, 20}) {
            PeriodKernel kernel = single(1, budget, word(JUMP, 0), END);
            begin(kernel);
            for (int i = 0; i < budget; i++) {
                due("not done before its last step", kernel.about(4), 1);
                due("steps left", kernel.job(0, 0), budget - i);
                due("pick(0)", kernel.pick(0), true);
            }
            due("done", kernel.about(4), 0);
            due("no more steps", kernel.pick(0), false);
            due("no more steps", kernel.step(2000), 0);
            due("time goes on", kernel.advance(), 1);
        }
    }

    private static void overranIfNotEnd() {
        for (int budget = 1; budget <= 5; budget++) {
            PeriodKernel kernel = single(1, budget, word(PUSH, 1), DROP, END);
            begin(kernel);
            for (int i = 1; i <= Math.min(budget, 3); i++) {
                due("not before its last step", kernel.job(0, 10), 0);
                kernel.pick(0);
            }
            due("END as step 3 of " + budget, kernel.job(0, 10), budget < 3 ? 1 : 0);
            kernel.advance();
            due("not in its next job", kernel.job(0, 10), 0);
        }
        PeriodKernel jump = single(1, 1, word(JUMP, 1), END);
        begin(jump);
        jump.pick(0);
        due("END would have been next", jump.job(0, 10), 1);
    }

    private static void outSlotHoldsOn() {
        PeriodKernel kernel = single(1, 7, word(PUSH, 3), word(STORE, 0), END);
        kernel.port(0, 0, 9, 6);
        kernel.wire(0, 0, 0, OUT);
        kernel.wire(0, 1, 1, OUT);
        begin(kernel);
        for (int time = 0; time <= 3; time++) {
            dueJob("at " + time, kernel, 0, 11, 6, 0);
            due("the port's value at " + time, kernel.value(0), 6);
            pass(kernel, 1);
        }
    }

    private static void outSlotHoldsItsPortsAtFirst() {
        PeriodKernel kernel = single(1, 1, END);
        kernel.wire(0, 0, 0, OUT);
        kernel.port(0, 0, 9, 5);
        kernel.wire(0, 1, 0, OUT);
        kernel.port(0, 0, 9, 8);
        kernel.wire(0, 2, 0, IN);
        kernel.port(1, 0, 99, 77);
        kernel.wire(0, 3, 1, OUT);
        kernel.port(1, 0, 50, 20);
        dueJob("held since each was wired", kernel, 0, 11, 0, 5, 0, 77, 0, 0);
        kernel.wire(0, 1, 2, NONE);
        kernel.wire(0, 0, 0, OUT);
        dueJob("wired again", kernel, 0, 11, 8, 0, 0, 77, 0, 0);
        begin(kernel);
        pass(kernel, 1);
        dueEvent("published though it was never SET", kernel, 0, 1, 0, 8, 0);
        dueEvent("published at the nearer end", kernel, 1, 1, 1, 50, 0);
        due("it holds it on", kernel.job(0, 14), 77);
    }

    private static void outSlotHoldsWhatItWasSetTo() {
        PeriodKernel kernel = single(1, 12, word(LOAD, 0), word(SKIP, 3), END, word(PUSH, 1), word(STORE, 0),
                word(PUSH, 40), word(SET, 5), word(PUSH, 41), word(SET, 5), END);
        kernel.port(0, 0, 30, 6);
        kernel.wire(0, 5, 0, OUT);
        begin(kernel);
        kernel.step(5);
        due("not SET yet", kernel.job(0, 16), 6);
        kernel.step(1);
        due("SET", kernel.job(0, 16), 40);
        kernel.step(2);
        due("SET once more", kernel.job(0, 16), 41);
        pass(kernel, 1);
        due("published", kernel.value(0), 30);
        due("held behind it", kernel.job(0, 16), 41);
        pass(kernel, 2);
        due("held from job to job", kernel.job(0, 16), 41);
        dueEvent("published again", kernel, 2, 3, 0, 30, 0);
    }
}
