/** "LOOKED AT": the six faults, at their edges, and whose number is told. */
final class LookSentences extends Checks {
    private static final int[] PLAIN = {END, ADD, SUB, MUL, DIV, LESS, SAME, DUP, SWAP, DROP};

    /** How many each word takes from the stack, and how many it leaves there. */
    private static final int[] TAKES = {0, 0, 0, 1, 2, 2, 2, 2, 2, 2, 0, 1, 1, 2, 1, 0, 1};
    private static final int[] LEAVES = {0, 1, 1, 0, 1, 1, 1, 1, 1, 1, 0, 0, 2, 2, 0, 1, 0};

    static void read(Book book) {
        book.sentence("LOOKED AT (what stands for modes that are none is left out)",
                LookSentences::modesThatAreNoneAreLeftOut);
        readFault1(book);
        book.sentence("2: the first task (of those) with a word that is come to", LookSentences::fault2IsTheFirstTask);
        book.sentence("and is GET of a slot not IN", LookSentences::fault2IsGetOfASlotNotIn);
        book.sentence("or SET of one not OUT", LookSentences::fault2IsSetOfASlotNotOut);
        book.sentence("3: mode 0, if it is none", LookSentences::fault3IsMode0IfItIsNone);
        book.sentence("else the first mode that is one, in which how often a task is used does not divide the period",
                LookSentences::fault3IsTheFirstModeNotDivided);
        book.sentence("4: the first mode in which two tasks have an OUT slot at the same port",
                LookSentences::fault4IsTwoTasksAtAPort);
        book.sentence("or one task two", LookSentences::fault4IsOneTaskTwice);
        book.sentence("or one has one at a port that a sensor is bound to", LookSentences::fault4IsOutAtASensor);
        book.sentence("or two sensors are bound to one port (mode 0 then)", LookSentences::fault4IsTwoSensors);
        book.sentence("5: the first mode with a guard to one that is none", LookSentences::fault5IsAGuardToNone);
        readFault6(book);
    }

    private static void readFault1(Book book) {
        book.sentence("FAULT 1, the first task by numbers", LookSentences::fault1IsTheFirstTask);
        book.sentence("of those that a mode uses", LookSentences::fault1IsOfTasksThatAModeUses);
        book.sentence("whose code is not as follows, by its words", LookSentences::fault1IsByItsWords);
        book.sentence("a way through it begins at word 0 with an empty stack", LookSentences::wayBeginsAtWord0);
        book.sentence("and goes on to the next word, or where it jumps", LookSentences::wayGoesOnOrJumps);
        book.sentence("behind END nowhere", LookSentences::behindEndNowhere);
        book.sentence("Each word that is come to is one of those told", LookSentences::eachWordComeToIsTold);
        book.sentence("words 0 .. 16", LookSentences::words0To16);
        book.sentence("slots 0 .. 5", LookSentences::slots0To5);
        book.sentence("locals 0 .. 3", LookSentences::locals0To3);
        book.sentence("n is 0 where it means nothing", LookSentences::nIs0WhereItMeansNothing);
        book.sentence("words to jump to are there", LookSentences::wordsToJumpToAreThere);
        book.sentence("there is a next word", LookSentences::thereIsANextWord);
        book.sentence("what it takes is on the stack", LookSentences::whatItTakesIsOnTheStack);
        book.sentence("and there are never more than 8", LookSentences::neverMoreThan8);
        book.sentence("a word that is come to in several ways has as many on the stack in each",
                LookSentences::asManyInEachWay);
    }

    private static void readFault6(Book book) {
        book.sentence("6: the first mode", LookSentences::fault6IsTheFirstMode);
        book.sentence("with a time a and a later b, 0 .. period", LookSentences::fault6IsOverAnyPartOfThePeriod);
        book.sentence("so that the budgets of all JOBS in it", LookSentences::fault6IsOfAllJobs);
        book.sentence("that are released at a or later and published at b or sooner",
                LookSentences::fault6IsOfJobsWithinIt);
        book.sentence("are together more than 20 * (b - a)", LookSentences::fault6IsMoreThan20ATime);
        book.sentence("(A task used f times has jobs released at 0, period / f, 2 * period / f, ..",
                LookSentences::jobsAreReleasedEvenly);
        book.sentence("each published when the next one would be released.)", LookSentences::jobsArePublishedAtTheNext);
    }

    /** Start's answer for a task 0 with these words, alone and unwired. */
    private static int start(int... words) {
        return single(60, 1, words).start();
    }

    private static int[] behindPushes(int pushes, int... words) {
        int[] all = new int[pushes + words.length];
        for (int i = 0; i < pushes; i++) {
            all[i] = word(PUSH, i);
        }
        System.arraycopy(words, 0, all, pushes, words.length);
        return all;
    }

    /** Tasks 0 .. 7 with sound codes, and modes 0 .. 3 of that period in which none is used. */
    private static PeriodKernel sound(int period) {
        PeriodKernel kernel = new PeriodKernel();
        for (int task = 0; task <= 7; task++) {
            kernel.code(task, END);
        }
        for (int mode = 0; mode <= 3; mode++) {
            kernel.mode(mode, period);
        }
        return kernel;
    }

    private static void modesThatAreNoneAreLeftOut() {
        for (int none = 1; none <= 3; none++) {
            PeriodKernel kernel = sound(1);
            kernel.mode(none, 0);
            kernel.code(4, 63);
            kernel.use(none, 5, 12);
            kernel.use(none, 6, 7);
            kernel.wire(5, 0, 0, OUT);
            kernel.wire(5, 1, 0, OUT);
            kernel.wire(6, 0, 0, OUT);
            kernel.task(5, 200);
            kernel.guard(none, 0, 2, 0, none);
            due("uses and guards of mode " + none, kernel.start(), 0);
        }
        PeriodKernel broken = single(1, 1, END);
        broken.code(1, 63);
        broken.code(2, word(GET, 0));
        broken.code(2, END);
        broken.use(3, 1, 1);
        broken.use(3, 2, 1);
        due("codes and slots of mode 3's tasks", broken.start(), 0);
        PeriodKernel later = single(1, 1, END);
        later.use(3, 1, 1);
        later.mode(3, 1);
        due("they count when it is one", later.start(), 101);
        later.mode(3, 0);
        due("and not when it is none again", later.start(), 0);
    }

    private static void fault1IsTheFirstTask() {
        for (int first = 0; first <= 7; first++) {
            PeriodKernel kernel = new PeriodKernel();
            kernel.mode(0, 60);
            for (int task = 7; task >= 0; task--) {
                kernel.use(0, task, 1);
                kernel.code(task, task < first ? END : ADD);
            }
            due("broken from task " + first + " on", kernel.start(), 100 + first);
        }
    }

    private static void fault1IsOfTasksThatAModeUses() {
        for (int mode = 0; mode <= 3; mode++) {
            PeriodKernel kernel = new PeriodKernel();
            kernel.mode(0, 1);
            kernel.mode(mode, 1);
            kernel.code(7, END);
            kernel.use(mode, 7, 1);
            kernel.code(5, 63);
            kernel.use(mode, 6, 1);
            due("used in mode " + mode, kernel.start(), 106);
            kernel.use(mode, 6, 0);
            due("used no more", kernel.start(), 0);
        }
    }

    private static void fault1IsByItsWords() {
        due("a way that is never gone", start(word(PUSH, 1), word(SKIP, 3), END, ADD), 100);
        due("words beyond the budget", start(word(PUSH, 1), word(PUSH, 1), ADD, ADD, END), 100);
        due("a loop without an end", start(word(JUMP, 0)), 0);
    }

    private static void wayBeginsAtWord0() {
        due("no word 0", start(), 100);
        due("END as word 0", start(END), 0);
        due("a wrong word 0", start(63, END), 100);
        due("an empty stack", start(DROP, END), 100);
        due("an empty stack, jumped from", start(word(JUMP, 1), DROP, END), 100);
    }

    private static void wayGoesOnOrJumps() {
        due("on to a wrong word", start(word(PUSH, 0), 63, END), 100);
        due("jump to a wrong word", start(word(JUMP, 2), END, 63), 100);
        due("jump over a wrong word", start(word(JUMP, 2), 63, END), 0);
        due("skip to a wrong word", start(word(PUSH, 1), word(SKIP, 3), END, 63), 100);
        due("on from a skip to a wrong word", start(word(PUSH, 0), word(SKIP, 3), 63, END), 100);
        due("jump back to a wrong word", start(word(JUMP, 2), 63, word(JUMP, 1)), 100);
        due("both ways of a skip are right", start(word(PUSH, 0), word(SKIP, 3), END, END), 0);
    }

    private static void behindEndNowhere() {
        due("END is the last word", start(word(PUSH, 1), END), 0);
        due("a wrong word behind END", start(END, 63), 0);
        due("a slot, unwired, behind END", start(END, word(GET, 0), word(SET, 0)), 0);
        due("END with some on the stack", start(word(PUSH, 1), word(PUSH, 1), END), 0);
    }

    private static void eachWordComeToIsTold() {
        due("the last word come to is wrong", start(behindPushes(8, 63)), 100);
        due("the 32nd word is wrong", start(jumpsUpTo31(63)), 100);
        due("the 32nd word is right", start(jumpsUpTo31(END)), 0);
        due("a word that is not come to", start(word(JUMP, 3), 63, word(GET, 9), END, word(LOAD, 4)), 0);
    }

    private static int[] jumpsUpTo31(int last) {
        int[] words = new int[32];
        for (int i = 0; i < 31; i++) {
            words[i] = word(JUMP, i + 1);
        }
        words[31] = last;
        return words;
    }

    private static void words0To16() {
        for (int what = 0; what <= 63; what++) {
            int n = what == JUMP || what == SKIP ? 3 : 0;
            int want = what > 16 ? 100 : what == GET || what == SET ? 200 : 0;
            due("word " + what, start(behindPushes(2, word(what, n), END)), want);
        }
    }

    private static void slots0To5() {
        for (int what : new int[] {GET, SET}) {
            for (int slot = 0; slot <= 5; slot++) {
                due("slot " + slot + ", unwired", start(behindPushes(1, word(what, slot), END)), 200);
            }
            for (int slot : new int[] {-33554432, -1, 6, 64, 33554431}) {
                due("slot " + slot, start(behindPushes(1, word(what, slot), END)), 100);
            }
        }
    }

    private static void locals0To3() {
        for (int what : new int[] {LOAD, STORE}) {
            for (int local = 0; local <= 3; local++) {
                due("local " + local, start(behindPushes(1, word(what, local), END)), 0);
            }
            for (int local : new int[] {-33554432, -1, 4, 64, 33554431}) {
                due("local " + local, start(behindPushes(1, word(what, local), END)), 100);
            }
        }
    }

    private static void nIs0WhereItMeansNothing() {
        for (int what : PLAIN) {
            due("word " + what, start(behindPushes(2, what, END)), 0);
            for (int n : new int[] {-33554432, -1, 1, 33554431}) {
                due("word " + what + " with " + n, start(behindPushes(2, word(what, n), END)), 100);
            }
        }
        for (int n : new int[] {-33554432, -1, 1, 33554431}) {
            due("PUSH " + n, start(word(PUSH, n), END), 0);
        }
    }

    private static void wordsToJumpToAreThere() {
        due("JUMP to the first", start(word(JUMP, 0)), 0);
        due("JUMP to the last", start(word(JUMP, 1), END), 0);
        due("JUMP right behind the code", start(word(JUMP, 2), END), 100);
        due("JUMP to word 32", start(jumpsUpTo31(word(JUMP, 32))), 100);
        due("SKIP to the first", start(word(PUSH, 0), word(SKIP, 0), END), 0);
        due("SKIP to the last", start(word(PUSH, 0), word(SKIP, 2), END), 0);
        due("SKIP right behind the code", start(word(PUSH, 0), word(SKIP, 3), END), 100);
        for (int n : new int[] {-33554432, -1, 32, 64, 33554431}) {
            due("JUMP to " + n, start(word(JUMP, n), END), 100);
            due("SKIP to " + n, start(word(PUSH, 0), word(SKIP, n), END), 100);
        }
    }

    private static void thereIsANextWord() {
        for (int what = 0; what <= 16; what++) {
            PeriodKernel kernel = single(1, 1, word(PUSH, 0), word(PUSH, 0), word(what, what == JUMP ? 2 : 0));
            kernel.wire(0, 0, 0, what == SET ? OUT : IN);
            due("word " + what + " is the last", kernel.start(), what == END || what == JUMP ? 0 : 100);
        }
        due("SKIP is the last", start(word(PUSH, 0), word(SKIP, 0)), 100);
        int[] full = new int[32];
        for (int i = 0; i < 32; i++) {
            full[i] = i % 2 == 0 ? word(PUSH, 0) : DROP;
        }
        due("32 words without END", start(full), 100);
        full[31] = END;
        due("32 words with END", start(full), 0);
    }

    private static void whatItTakesIsOnTheStack() {
        for (int what = 0; what <= 16; what++) {
            for (int pushes = 0; pushes <= 3; pushes++) {
                int n = what == JUMP || what == SKIP ? pushes + 1 : 0;
                PeriodKernel kernel = single(1, 1, behindPushes(pushes, word(what, n), END));
                kernel.wire(0, 0, 0, what == SET ? OUT : IN);
                due("word " + what + " of " + pushes, kernel.start(), pushes < TAKES[what] ? 100 : 0);
            }
        }
        whatEachWordLeavesIsOnTheStack();
    }

    /** Behind each word there is as much on the stack as it leaves: so much may be dropped, and no more. */
    private static void whatEachWordLeavesIsOnTheStack() {
        for (int what = 1; what <= 16; what++) {
            int left = 3 - TAKES[what] + LEAVES[what];
            due("word " + what + " and " + left + " DROP", startWithDrops(what, left), 0);
            due("word " + what + " and " + (left + 1) + " DROP", startWithDrops(what, left + 1), 100);
        }
    }

    private static int startWithDrops(int what, int drops) {
        PeriodKernel kernel = single(1, 1, behindPushes(3, word(what, what == JUMP || what == SKIP ? 4 : 0)));
        kernel.wire(0, 0, 0, what == SET ? OUT : IN);
        for (int i = 0; i < drops; i++) {
            kernel.code(0, DROP);
        }
        kernel.code(0, END);
        return kernel.start();
    }

    private static void neverMoreThan8() {
        for (int what = 0; what <= 16; what++) {
            for (int pushes = 7; pushes <= 8; pushes++) {
                int n = what == JUMP || what == SKIP ? pushes + 1 : 0;
                PeriodKernel kernel = single(1, 1, behindPushes(pushes, word(what, n), END));
                kernel.wire(0, 0, 0, what == SET ? OUT : IN);
                due("word " + what + " on " + pushes, kernel.start(), pushes - TAKES[what] + LEAVES[what] > 8 ? 100 : 0);
            }
        }
        due("8 at the end", start(behindPushes(8, END)), 0);
        due("9 at the end", start(behindPushes(9, END)), 100);
        due("ever more", start(word(PUSH, 0), word(JUMP, 0)), 100);
    }

    private static void asManyInEachWay() {
        due("as many, on from both ways", start(word(PUSH, 0), word(SKIP, 4), word(PUSH, 1), word(JUMP, 5),
                word(PUSH, 2), DROP, END), 0);
        due("one more behind SKIP", start(word(PUSH, 0), word(SKIP, 3), word(PUSH, 1), END), 100);
        due("one fewer behind SKIP", start(word(PUSH, 0), word(PUSH, 0), word(SKIP, 4), DROP, END), 100);
        due("as many, back in a loop", start(word(PUSH, 0), word(PUSH, 0), word(SKIP, 1), END), 0);
        due("as many, back at the beginning", start(word(PUSH, 0), word(SKIP, 0), word(JUMP, 0)), 0);
        due("more, back at the beginning", start(word(PUSH, 0), DUP, word(SKIP, 0), END), 100);
        due("END with more in one way", start(word(PUSH, 0), word(SKIP, 4), word(PUSH, 1), word(PUSH, 1), END), 100);
        due("two ENDs, each with its own", start(word(PUSH, 0), word(SKIP, 4), word(PUSH, 1), END, END), 0);
    }

    private static void fault2IsTheFirstTask() {
        for (int first = 0; first <= 7; first++) {
            PeriodKernel kernel = new PeriodKernel();
            kernel.mode(0, 60);
            kernel.mode(2, 60);
            for (int task = 7; task >= 0; task--) {
                kernel.use(task % 2 * 2, task, 1);
                code(kernel, task, word(JUMP, 2), END, word(GET, task < first ? 0 : 1), END);
                kernel.wire(task, 0, 0, IN);
            }
            due("wrong from task " + first + " on", kernel.start(), 200 + first);
            kernel.use(first % 2 * 2, first, 0);
            due("but the first is not used", kernel.start(), first == 7 ? 0 : 201 + first);
        }
        due("a word that is not come to", start(word(JUMP, 2), word(GET, 0), END, word(SET, 0)), 0);
        due("a word in a way that is never gone", start(word(PUSH, 1), word(SKIP, 3), END, word(GET, 0), END), 200);
        PeriodKernel later = new PeriodKernel();
        later.mode(0, 1);
        later.use(0, 0, 1);
        later.use(0, 7, 1);
        code(later, 0, word(GET, 0), END);
        due("FAULT 1 of a later task comes first", later.start(), 107);
    }

    private static int startWired(int way, int... words) {
        PeriodKernel kernel = single(60, 1, words);
        kernel.wire(0, 3, 0, way);
        return kernel.start();
    }

    private static void fault2IsGetOfASlotNotIn() {
        due("GET of an unwired slot", startWired(NONE, word(GET, 3), END), 200);
        due("GET of an IN slot", startWired(IN, word(GET, 3), END), 0);
        due("GET of an OUT slot", startWired(OUT, word(GET, 3), END), 200);
        due("GET of the slot below", startWired(IN, word(GET, 2), END), 200);
        due("GET of the slot above", startWired(IN, word(GET, 4), END), 200);
        due("the second GET", startWired(IN, word(GET, 3), word(GET, 0), END), 200);
    }

    private static void fault2IsSetOfASlotNotOut() {
        due("SET of an unwired slot", startWired(NONE, word(PUSH, 1), word(SET, 3), END), 200);
        due("SET of an IN slot", startWired(IN, word(PUSH, 1), word(SET, 3), END), 200);
        due("SET of an OUT slot", startWired(OUT, word(PUSH, 1), word(SET, 3), END), 0);
        due("SET of the slot below", startWired(OUT, word(PUSH, 1), word(SET, 2), END), 200);
        due("SET of the slot above", startWired(OUT, word(PUSH, 1), word(SET, 4), END), 200);
        due("an OUT slot that is never SET", startWired(OUT, END), 0);
    }

    private static void fault3IsMode0IfItIsNone() {
        PeriodKernel kernel = new PeriodKernel();
        due("nothing is built", kernel.start(), 300);
        kernel.mode(1, 5);
        kernel.mode(2, 5);
        kernel.code(0, END);
        kernel.use(1, 0, 2);
        due("mode 1 is not divided, too", kernel.start(), 300);
        kernel.use(1, 0, 1);
        due("mode 1 is right", kernel.start(), 300);
        kernel.mode(0, 5);
        due("mode 0 is one", kernel.start(), 0);
    }

    private static void fault3IsTheFirstModeNotDivided() {
        for (int period = 1; period <= 60; period++) {
            for (int often = 0; often <= 12; often++) {
                PeriodKernel kernel = single(period, 1, END);
                kernel.use(0, 0, often);
                int want = often > 0 && period % often != 0 ? 300 : 0;
                due(period + " by " + often, kernel.start(), want);
            }
        }
        for (int first = 0; first <= 3; first++) {
            PeriodKernel kernel = sound(10);
            for (int mode = first; mode <= 3; mode++) {
                kernel.use(mode, 7 - mode, 3);
            }
            kernel.use(first, 0, 2);
            due("not divided from mode " + first + " on", kernel.start(), 300 + first);
        }
        PeriodKernel none = sound(10);
        none.mode(1, 0);
        none.use(1, 0, 3);
        none.use(2, 7, 4);
        due("mode 1 is none", none.start(), 302);
    }

    private static void fault4IsTwoTasksAtAPort() {
        for (int first = 0; first <= 3; first++) {
            PeriodKernel kernel = sound(60);
            kernel.wire(0, 5, 15, OUT);
            kernel.wire(7, 0, 15, OUT);
            for (int mode = 0; mode <= 3; mode++) {
                kernel.use(mode, 0, 1);
                kernel.use(mode, 7, mode < first ? 0 : 12);
            }
            due("two from mode " + first + " on", kernel.start(), 400 + first);
        }
        for (int pair = 0; pair < 48 * 48; pair++) {
            int one = pair / 48;
            int other = pair % 48;
            if (one / 6 != other / 6) {
                due("slots " + one % 6 + " and " + other % 6 + " of tasks " + one / 6 + " and " + other / 6,
                        startWithOuts(one, other), 401);
            }
        }
        PeriodKernel kernel = sound(60);
        kernel.wire(0, 0, 0, OUT);
        kernel.wire(1, 0, 0, OUT);
        kernel.wire(2, 0, 0, IN);
        kernel.wire(3, 0, 1, OUT);
        kernel.use(0, 0, 1);
        kernel.use(0, 2, 1);
        kernel.use(0, 3, 1);
        kernel.use(1, 1, 1);
        due("one in each mode, one IN, one at another port", kernel.start(), 0);
    }

    /** Two slots, counted through all tasks, are OUT at one port, in mode 1. */
    private static int startWithOuts(int one, int other) {
        PeriodKernel kernel = new PeriodKernel();
        kernel.mode(0, 1);
        kernel.mode(1, 1);
        for (int slot : new int[] {one, other}) {
            kernel.code(slot / 6, END);
            kernel.use(1, slot / 6, 1);
            kernel.wire(slot / 6, slot % 6, 15, OUT);
        }
        return kernel.start();
    }

    private static void fault4IsOneTaskTwice() {
        for (int one = 0; one < 48; one++) {
            for (int other = one + 1; other / 6 == one / 6; other++) {
                due("slots " + one % 6 + " and " + other % 6 + " of task " + one / 6, startWithOuts(one, other), 401);
            }
        }
        PeriodKernel unused = sound(60);
        unused.wire(3, 0, 15, OUT);
        unused.wire(3, 1, 15, OUT);
        due("of a task that is not used", unused.start(), 0);
        PeriodKernel kernel = sound(60);
        kernel.use(1, 6, 1);
        kernel.wire(6, 4, 0, OUT);
        kernel.wire(6, 5, 0, OUT);
        due("slots 4 and 5", kernel.start(), 401);
        kernel.wire(6, 4, 0, NONE);
        due("one of them is unwired", kernel.start(), 0);
    }

    private static void fault4IsOutAtASensor() {
        for (int sensor = 0; sensor <= 7; sensor++) {
            PeriodKernel kernel = sound(60);
            kernel.use(3, 5, 1);
            kernel.wire(5, 5, 15, OUT);
            kernel.wire(4, 0, 15, OUT);
            kernel.sense(sensor, 15);
            due("sensor " + sensor, kernel.start(), 403);
            kernel.use(2, 4, 1);
            due("and a task of mode 2", kernel.start(), 402);
            kernel.use(2, 4, 0);
            kernel.sense(sensor, 14);
            due("at another port", kernel.start(), 0);
        }
        PeriodKernel kernel = sound(60);
        kernel.use(0, 0, 1);
        kernel.wire(0, 0, 0, OUT);
        kernel.wire(0, 1, 1, IN);
        kernel.sense(0, 0);
        kernel.sense(0, NONE);
        kernel.sense(1, 1);
        due("bound no more, and IN at a sensor", kernel.start(), 0);
    }

    private static void fault4IsTwoSensors() {
        PeriodKernel kernel = sound(60);
        kernel.sense(0, 15);
        kernel.sense(7, 15);
        due("sensors 0 and 7", kernel.start(), 400);
        kernel.sense(7, NONE);
        kernel.sense(6, NONE);
        kernel.sense(1, 0);
        kernel.sense(2, 0);
        due("sensors 1 and 2 at port 0", kernel.start(), 400);
        kernel.use(3, 0, 1);
        kernel.wire(0, 0, 0, OUT);
        due("and an OUT slot of mode 3", kernel.start(), 400);
        kernel.wire(0, 0, 0, NONE);
        kernel.sense(2, 1);
        due("one at each port, two at none", kernel.start(), 0);
    }

    private static void fault5IsAGuardToNone() {
        for (int first = 0; first <= 2; first++) {
            PeriodKernel kernel = sound(1);
            kernel.mode(3, 0);
            for (int mode = first; mode <= 2; mode++) {
                kernel.guard(mode, 0, 3, 0, mode);
                kernel.guard(mode, 0, 3, 0, 3);
            }
            kernel.guard(3, 0, 3, 0, 3);
            due("from mode " + first + " on", kernel.start(), 500 + first);
            kernel.mode(3, 1);
            due("mode 3 is one", kernel.start(), 0);
        }
        for (int count = 1; count <= 4; count++) {
            PeriodKernel kernel = sound(1);
            kernel.mode(2, 0);
            for (int i = 1; i < count; i++) {
                kernel.guard(1, 0, 0, 0, 3);
            }
            kernel.guard(1, 0, 0, 0, 2);
            due("as guard " + count, kernel.start(), 501);
        }
    }

    private static void fault6IsTheFirstMode() {
        for (int first = 0; first <= 3; first++) {
            PeriodKernel kernel = sound(2);
            kernel.task(7, 41);
            for (int mode = first; mode <= 3; mode++) {
                kernel.use(mode, 7, 1);
            }
            due("too much from mode " + first + " on", kernel.start(), 600 + first);
            kernel.mode(first, 3);
            due("but the first has room", kernel.start(), first == 3 ? 0 : 601 + first);
        }
        PeriodKernel none = sound(2);
        none.task(7, 41);
        none.mode(1, 0);
        none.use(1, 7, 1);
        due("mode 1 is none", none.start(), 0);
    }

    private static void fault6IsOverAnyPartOfThePeriod() {
        due("the whole, with 200", load(10, 1, 200, 0, 0), 0);
        due("the whole, with too much", load(9, 1, 181, 0, 0), 600);
        due("each half, with 20", load(2, 2, 20, 0, 0), 0);
        due("each half, with 21", load(2, 2, 21, 0, 0), 600);
        due("each twelfth, with 100", load(60, 12, 100, 0, 0), 0);
        due("each twelfth, with 101", load(60, 12, 101, 0, 0), 600);
    }

    /** Start's answer for mode 0 with two tasks: how often each is used, and its budget. */
    private static int load(int period, int often, int budget, int often2, int budget2) {
        PeriodKernel kernel = sound(60);
        kernel.mode(0, period);
        kernel.use(0, 0, often);
        kernel.task(0, budget);
        kernel.use(0, 7, often2);
        kernel.task(7, Math.max(1, budget2));
        return kernel.start();
    }

    private static void fault6IsOfAllJobs() {
        due("10 and 10 at each time", load(1, 1, 10, 1, 10), 0);
        due("10 and 11 at each time", load(1, 1, 10, 1, 11), 600);
        due("of all of one task's jobs", load(6, 6, 10, 1, 60), 0);
        due("one step more for the other", load(6, 6, 10, 1, 61), 600);
        due("one step more for each of one's", load(6, 6, 11, 1, 60), 600);
        PeriodKernel all = sound(60);
        for (int task = 0; task <= 7; task++) {
            all.task(task, 150);
            all.use(3, task, 1);
        }
        due("8 tasks with 150", all.start(), 0);
        PeriodKernel more = sound(60);
        for (int task = 0; task <= 7; task++) {
            more.task(task, task == 4 ? 151 : 150);
            more.use(3, task, 1);
        }
        due("8 tasks, one with 151", more.start(), 603);
        more.task(3, 149);
        due("8 tasks, with 149, 151, and 150", more.start(), 0);
    }

    private static void fault6IsOfJobsWithinIt() {
        due("a job that ends behind b is not in it", load(2, 1, 40, 0, 0), 0);
        due("a job that begins before a is not in it", load(4, 2, 20, 1, 40), 0);
        due("jobs of lengths 2 and 3", load(6, 3, 20, 2, 30), 0);
        due("jobs of lengths 2 and 3, one step more", load(6, 3, 20, 2, 31), 600);
        due("a task that is not used has no jobs", load(1, 1, 20, 0, 200), 0);
    }

    private static void fault6IsMoreThan20ATime() {
        for (int period = 1; period <= 10; period++) {
            due("20 a time, " + period + " times", load(period, 1, 20 * period, 0, 0), 0);
            if (period < 10) {
                due("one more, " + period + " times", load(period, 1, 20 * period + 1, 0, 0), 600);
            }
        }
    }

    private static void jobsAreReleasedEvenly() {
        int[][] uses = {{12, 1}, {12, 2}, {12, 3}, {12, 4}, {12, 6}, {12, 12}, {60, 5}, {60, 12}, {1, 1}, {7, 7}};
        for (int[] use : uses) {
            PeriodKernel kernel = single(use[0], 1, END);
            kernel.use(0, 0, use[1]);
            begin(kernel);
            int length = use[0] / use[1];
            for (int time = 0; time < use[0]; time++) {
                due("released, at " + time, kernel.job(0, 1), time / length * length);
                due("a job not done, at " + time, kernel.about(4), time % length == 0 ? 1 : 0);
                pass(kernel, 1);
            }
            due("released in the next period", kernel.job(0, 1), use[0]);
        }
    }

    private static void jobsArePublishedAtTheNext() {
        int[][] uses = {{12, 1}, {12, 3}, {12, 12}, {60, 12}, {1, 1}};
        for (int[] use : uses) {
            PeriodKernel kernel = single(use[0], 1, END);
            kernel.wire(0, 0, 0, OUT);
            kernel.use(0, 0, use[1]);
            begin(kernel);
            int length = use[0] / use[1];
            for (int time = 0; time <= use[0]; time++) {
                due("is to be published, at " + time, kernel.job(0, 2), time / length * length + length);
                due("were published, at " + time, kernel.about(3), time / length);
                pass(kernel, 1);
            }
        }
    }
}
