import java.util.Random;

/** Numbers that are drawn, the same ones each time for the same seed. */
final class Draw {
    private final Random random;

    Draw(long seed) {
        random = new Random(seed);
    }

    /** Once in so many. */
    boolean chance(int of) {
        return random.nextInt(of) == 0;
    }

    int from(int least, int greatest) {
        return least + random.nextInt(greatest - least + 1);
    }

    int of(int... numbers) {
        return numbers[random.nextInt(numbers.length)];
    }

    /** Most often a small one, but any int may come. */
    int anyInt() {
        return chance(9) ? random.nextInt() : chance(9) ? of(Checks.LEAST, Checks.GREATEST) : from(-9, 9);
    }

    /** Words that may be none, with numbers that may be wrong. */
    int[] anyCode() {
        int[] words = new int[from(0, 9)];
        for (int i = 0; i < words.length; i++) {
            int what = chance(40) ? from(0, 63) : from(0, 16);
            boolean withNumber = what >= 1 && what <= 3 || what == 10 || what == 11 || what >= 15;
            words[i] = Checks.word(what, withNumber ? from(chance(20) ? -1 : 0, 6) : chance(40) ? from(-1, 1) : 0);
        }
        return words;
    }
}
