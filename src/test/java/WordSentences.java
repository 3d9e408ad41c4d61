/** "WORDS of a code": what each word does to the stack, the locals, the slots and the next word. */
final class WordSentences extends Checks {
    private static final int[] EDGES = {LEAST, LEAST + 1, -65536, -7, -2, -1, 0, 1, 2, 7, 65536, GREATEST - 1,
        GREATEST};

    static void read(Book book) {
        book.sentence("WORDS of a code: the lowest 6 bits what", WordSentences::lowest6BitsSayWhat);
        book.sentence("the others (a number, with its sign) n", WordSentences::othersAreANumberWithItsSign);
        book.sentence("0 END", WordSentences::endIsDone);
        book.sentence("1 PUSH n", WordSentences::pushIsOnTop);
        book.sentence("2 GET slot n: its port's value, as it was latched", WordSentences::getIsWhatWasLatched);
        book.sentence("3 SET slot n: what is on top is held for it", WordSentences::setIsHeldForTheSlot);
        book.sentence("4 ADD", WordSentences::add);
        book.sentence("5 SUB", WordSentences::sub);
        book.sentence("6 MUL (in ints)", WordSentences::mulInInts);
        book.sentence("7 DIV (towards 0; by 0: 0)", WordSentences::divTowards0AndBy0);
        book.sentence("8 LESS (1 or 0)", WordSentences::less);
        book.sentence("9 SAME (1 or 0)", WordSentences::same);
        book.sentence("of the two on top, the upper one is the right one", WordSentences::upperOneIsTheRightOne);
        book.sentence("they go, the result comes", WordSentences::twoGoAndTheResultComes);
        book.sentence("10 JUMP to word n", WordSentences::jump);
        book.sentence("11 SKIP to word n if what is on top is 0", WordSentences::skipIf0);
        book.sentence("12 DUP", WordSentences::dup);
        book.sentence("13 SWAP", WordSentences::swap);
        book.sentence("14 DROP", WordSentences::drop);
        book.sentence("15 LOAD local n", WordSentences::load);
        book.sentence("16 STORE local n", WordSentences::store);
        book.sentence("(SET, SKIP, STORE, DROP take what is on top.)", WordSentences::takeWhatIsOnTop);
    }

    /** Task 0 is released with these words and has taken so many steps. */
    private static PeriodKernel after(int steps, int... words) {
        PeriodKernel kernel = single(60, 200, words);
        begin(kernel);
        due("steps", kernel.step(steps), steps);
        return kernel;
    }

    /** A word's number has 26 bits; greater ones are put together in 5 steps. */
    private static int[] twoInts(int left, int right, int what) {
        return new int[] {word(PUSH, left >> 16), word(PUSH, 65536), MUL, word(PUSH, left & 65535), ADD,
            word(PUSH, right >> 16), word(PUSH, 65536), MUL, word(PUSH, right & 65535), ADD, what, END};
    }

    private static int both(int what, int left, int right) {
        return after(11, twoInts(left, right, what)).job(0, 5);
    }

    private static void lowest6BitsSayWhat() {
        due("65 is PUSH 1", after(1, 65, END).job(0, 5), 1);
        due("127 is 63 with 1, and no word", single(1, 1, 127, END).start(), 100);
        due("66 is GET slot 1", single(1, 1, 66, END).start(), 200);
        due("-64 is END with -1, and no word", single(1, 1, -64).start(), 100);
        due("64 is END with 1, and no word", single(1, 1, 64).start(), 100);
        due("63 with 0 is no word", single(1, 1, 63, END).start(), 100);
        due("17 is no word", single(1, 1, 17, END).start(), 100);
        due("80 is STORE local 1", after(2, word(PUSH, 5), 80, END).job(0, 7), 5);
    }

    private static void othersAreANumberWithItsSign() {
        due("1", after(1, 1, END).job(0, 5), 0);
        due("-63", after(1, -63, END).job(0, 5), -1);
        due("-127", after(1, -127, END).job(0, 5), -2);
        due("the greatest", after(1, GREATEST - 62, END).job(0, 5), 33554431);
        due("the least", after(1, LEAST + 1, END).job(0, 5), -33554432);
    }

    private static void endIsDone() {
        PeriodKernel kernel = after(1, END, word(PUSH, 1), END);
        dueJob("done", kernel, 0, 0, 0, 0, 60, 1, 0, 0);
        due("no step behind it", kernel.pick(0), false);
        due("it is no overrun", kernel.job(0, 10), 0);
    }

    private static void pushIsOnTop() {
        PeriodKernel kernel = after(0, word(PUSH, 5), word(PUSH, -6), word(PUSH, 0), END);
        dueJob("before", kernel, 0, 3, 0, 0, 0);
        int[] tops = {5, -6, 0};
        for (int i = 0; i < 3; i++) {
            kernel.pick(0);
            dueJob("behind PUSH " + tops[i], kernel, 0, 3, i + 1, i + 1, tops[i]);
        }
    }

    private static void getIsWhatWasLatched() {
        for (int slot = 0; slot <= 5; slot++) {
            PeriodKernel kernel = single(3, 4, word(GET, slot), word(GET, slot), END);
            kernel.port(9, -50, 50, 0);
            kernel.wire(0, slot, 9, IN);
            kernel.sense(0, 9);
            kernel.sensor(0, -41);
            begin(kernel);
            kernel.sensor(0, 42);
            kernel.pick(0);
            dueJob("GET slot " + slot, kernel, 0, 3, 1, 1, -41);
            kernel.advance();
            due("the port has another value", kernel.value(9), 42);
            kernel.pick(0);
            dueJob("GET slot " + slot + " again", kernel, 0, 3, 2, 2, -41);
        }
    }

    private static void setIsHeldForTheSlot() {
        for (int slot = 0; slot <= 5; slot++) {
            PeriodKernel kernel = single(1, 5, word(PUSH, 7), word(PUSH, 21), word(SET, slot), word(SET, slot), END);
            kernel.port(9, 0, 10, 4);
            kernel.wire(0, slot, 9, OUT);
            begin(kernel);
            kernel.step(2);
            due("held at first", kernel.job(0, 11 + slot), 4);
            kernel.step(1);
            due("held", kernel.job(0, 11 + slot), 21);
            due("not yet at the port", kernel.value(9), 4);
            kernel.step(1);
            due("held in its place", kernel.job(0, 11 + slot), 7);
            for (int other = 0; other <= 5; other++) {
                due("slot " + other, kernel.job(0, 11 + other), other == slot ? 7 : 0);
            }
        }
    }

    private static void add() {
        for (int left : EDGES) {
            for (int right : EDGES) {
                due(left + " ADD " + right, both(ADD, left, right), left + right);
            }
        }
        due("the greatest ADD 1", both(ADD, GREATEST, 1), LEAST);
        due("the least ADD -1", both(ADD, LEAST, -1), GREATEST);
    }

    private static void sub() {
        for (int left : EDGES) {
            for (int right : EDGES) {
                due(left + " SUB " + right, both(SUB, left, right), left - right);
            }
        }
        due("the least SUB 1", both(SUB, LEAST, 1), GREATEST);
        due("0 SUB the least", both(SUB, 0, LEAST), LEAST);
    }

    private static void mulInInts() {
        for (int left : EDGES) {
            for (int right : EDGES) {
                due(left + " MUL " + right, both(MUL, left, right), left * right);
            }
        }
        due("65536 MUL 65536", both(MUL, 65536, 65536), 0);
        due("46341 MUL 46341", both(MUL, 46341, 46341), -2147479015);
        due("the least MUL -1", both(MUL, LEAST, -1), LEAST);
    }

    private static void divTowards0AndBy0() {
        for (int left : EDGES) {
            for (int right : EDGES) {
                long want = right == 0 ? 0 : (int) ((long) left / right);
                due(left + " DIV " + right, both(DIV, left, right), want);
            }
        }
        due("7 DIV 2", both(DIV, 7, 2), 3);
        due("-7 DIV 2", both(DIV, -7, 2), -3);
        due("7 DIV -2", both(DIV, 7, -2), -3);
        due("-7 DIV -2", both(DIV, -7, -2), 3);
        due("7 DIV 0", both(DIV, 7, 0), 0);
        due("0 DIV 0", both(DIV, 0, 0), 0);
        due("the least DIV -1", both(DIV, LEAST, -1), LEAST);
    }

    private static void less() {
        for (int left : EDGES) {
            for (int right : EDGES) {
                due(left + " LESS " + right, both(LESS, left, right), left < right ? 1 : 0);
            }
        }
    }

    private static void same() {
        for (int left : EDGES) {
            for (int right : EDGES) {
                due(left + " SAME " + right, both(SAME, left, right), left == right ? 1 : 0);
            }
        }
    }

    private static void upperOneIsTheRightOne() {
        due("9 below 4, SUB", after(3, word(PUSH, 9), word(PUSH, 4), SUB, END).job(0, 5), 5);
        due("9 below 4, DIV", after(3, word(PUSH, 9), word(PUSH, 4), DIV, END).job(0, 5), 2);
        due("9 below 4, LESS", after(3, word(PUSH, 9), word(PUSH, 4), LESS, END).job(0, 5), 0);
        due("4 below 9, LESS", after(3, word(PUSH, 4), word(PUSH, 9), LESS, END).job(0, 5), 1);
        due("0 below 9, DIV", after(3, word(PUSH, 0), word(PUSH, 9), DIV, END).job(0, 5), 0);
    }

    private static void twoGoAndTheResultComes() {
        int[] results = {9, -3, 18, 0, 1, 0};
        for (int what = ADD; what <= SAME; what++) {
            PeriodKernel kernel = after(4, word(PUSH, 8), word(PUSH, 3), word(PUSH, 6), what, DROP, END);
            dueJob("behind word " + what, kernel, 0, 3, 4, 2, results[what - ADD]);
            kernel.pick(0);
            dueJob("below the result", kernel, 0, 3, 5, 1, 8);
        }
    }

    private static void jump() {
        PeriodKernel kernel = after(1, word(JUMP, 3), END, word(JUMP, 1), word(JUMP, 2));
        due("onwards", kernel.job(0, 3), 3);
        kernel.pick(0);
        due("back", kernel.job(0, 3), 2);
        kernel.pick(0);
        due("back once more", kernel.job(0, 3), 1);
        PeriodKernel itself = after(9, word(JUMP, 0));
        due("to itself", itself.job(0, 3), 0);
        dueJob("what is on the stack stays", after(2, word(PUSH, 4), word(JUMP, 2), END), 0, 3, 2, 1, 4);
    }

    private static void skipIf0() {
        for (int top : new int[] {-33554432, -1, 1, 2, 33554431}) {
            due("SKIP of " + top, after(2, word(PUSH, top), word(SKIP, 3), END, END).job(0, 3), 2);
        }
        due("SKIP of 0", after(2, word(PUSH, 0), word(SKIP, 3), END, END).job(0, 3), 3);
        due("SKIP of 0, back", after(2, word(PUSH, 0), word(SKIP, 0), END).job(0, 3), 0);
        due("SKIP of 0 to itself", single(1, 1, word(PUSH, 0), word(SKIP, 1), END).start(), 100);
    }

    private static void dup() {
        PeriodKernel kernel = after(3, word(PUSH, 3), word(PUSH, 8), DUP, DROP, DROP, END);
        dueJob("DUP", kernel, 0, 3, 3, 3, 8);
        kernel.pick(0);
        dueJob("below it", kernel, 0, 3, 4, 2, 8);
        kernel.pick(0);
        dueJob("below both", kernel, 0, 3, 5, 1, 3);
    }

    private static void swap() {
        PeriodKernel kernel = after(4, word(PUSH, 2), word(PUSH, 3), word(PUSH, 8), SWAP, DROP, DROP, END);
        dueJob("SWAP", kernel, 0, 3, 4, 3, 3);
        kernel.pick(0);
        dueJob("below it", kernel, 0, 3, 5, 2, 8);
        kernel.pick(0);
        dueJob("below both", kernel, 0, 3, 6, 1, 2);
    }

    private static void drop() {
        PeriodKernel kernel = after(3, word(PUSH, 3), word(PUSH, 8), DROP, DROP, END);
        dueJob("DROP", kernel, 0, 3, 3, 1, 3);
        kernel.pick(0);
        dueJob("DROP of the last one", kernel, 0, 3, 4, 0, 0);
    }

    private static void load() {
        for (int local = 0; local <= 3; local++) {
            PeriodKernel kernel = after(4, word(PUSH, -17), word(STORE, local), word(PUSH, 6), word(LOAD, local), END);
            dueJob("LOAD local " + local, kernel, 0, 3, 4, 2, -17);
            due("the local stays", kernel.job(0, 6 + local), -17);
        }
    }

    private static void store() {
        for (int local = 0; local <= 3; local++) {
            PeriodKernel kernel = after(3, word(PUSH, 6), word(PUSH, -17), word(STORE, local), word(STORE, local), END);
            dueJob("STORE local " + local, kernel, 0, 3, 3, 1, 6);
            for (int other = 0; other <= 3; other++) {
                due("local " + other, kernel.job(0, 6 + other), other == local ? -17 : 0);
            }
            kernel.pick(0);
            due("STORE in its place", kernel.job(0, 6 + local), 6);
        }
    }

    private static void takeWhatIsOnTop() {
        int[] takers = {word(SET, 0), word(SKIP, 3), word(STORE, 0), DROP};
        for (int taker : takers) {
            PeriodKernel kernel = single(1, 9, word(PUSH, 5), word(PUSH, 6), taker, END);
            kernel.wire(0, 0, 0, OUT);
            begin(kernel);
            kernel.step(3);
            dueJob("behind word " + taker, kernel, 0, 3, 3, 1, 5);
        }
    }
}
