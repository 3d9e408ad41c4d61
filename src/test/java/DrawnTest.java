import java.util.ArrayList;
import java.util.List;

/** Promise 11 over drawn programs, most of them with a fault; and any calls with any arguments in any state. */
public final class DrawnTest {
    private static final int PROGRAMS = 10000;
    private static final int OBJECTS = 3000;

    /** Every method of the face, by how many arguments it takes. */
    private static final String[][] METHODS = {{"start", "advance"}, {"pick", "step", "value", "about"},
        {"task", "code", "mode", "sense", "actuate", "sensor", "actuator", "job", "event"}, {"use"},
        {"port", "wire"}, {"guard"}};

    /** The greatest that the document allows somewhere, and one beyond. */
    private static final int[] LIMITS = {3, 4, 5, 6, 7, 8, 12, 13, 15, 16, 17, 32, 33, 60, 61, 200, 201, 2000, 2001};

    private final Draw draw;
    private final Both both;
    private final int[][] ways = new int[8][6];

    private DrawnTest(String name, long seed) {
        draw = new Draw(seed);
        both = new Both(name + " " + seed);
    }

    public static void main(String[] args) {
        int[] found = new int[7];
        for (int i = 0; i < PROGRAMS; i++) {
            DrawnTest drawn = new DrawnTest("program", i);
            drawn.drawProgram();
            found[Integer.parseInt(drawn.both.call("start")) / 100]++;
        }
        for (int i = 0; i < found.length; i++) {
            Checks.due("programs with fault " + i + " are drawn", found[i] >= 100, true);
        }
        for (int i = 0; i < OBJECTS; i++) {
            new DrawnTest("object", i).makeAnyCalls();
        }
        Checks.end();
    }

    // ---- a program ----

    private void drawProgram() {
        for (int m = 0; m < 4; m++) {
            int period = draw.chance(9) ? draw.of(1, 4, 6) : draw.of(12, 24, 60);
            both.call("mode", m, draw.chance(m == 0 ? 40 : 2) ? 0 : period);
            for (int t = 0; t < 8; t++) {
                int often = draw.chance(2) ? draw.of(1, 2, 3, 4, 6, 12) : draw.chance(90) ? draw.from(0, 12) : 0;
                both.call("use", m, t, often);
            }
            for (int g = draw.chance(5) ? draw.from(1, 4) : 0; g > 0; g--) {
                both.call("guard", m, 0, 0, 0, draw.from(0, 3));
            }
        }
        for (int t = 0; t < 8; t++) {
            drawTask(t);
        }
        for (int s = 0; s < 8; s++) {
            both.call("sense", s, draw.chance(30) ? draw.from(0, 15) : Checks.NONE);
        }
    }

    private void drawTask(int t) {
        both.call("task", t, draw.from(1, draw.chance(3) ? 60 : 20));
        for (int s = 0; s < 6; s++) {
            boolean out = draw.chance(draw.chance(4) ? 2 : 12);
            ways[t][s] = s < 3 ? Checks.IN : out ? Checks.OUT : Checks.NONE;
            both.call("wire", t, s, draw.chance(20) ? draw.from(0, 15) : (2 * t + s) % 16, ways[t][s]);
        }
        for (int word : draw.chance(6) ? draw.anyCode() : likelyCode(t)) {
            both.call("code", t, word);
        }
    }

    /** Code that keeps its stack in order, with jumps forwards and, now and then, to themselves. */
    private int[] likelyCode(int t) {
        List<Integer> words = new ArrayList<>();
        int depth = 0;
        for (int i = draw.from(0, 13); i > 0; i--) {
            if (depth < 2 || depth < 8 && draw.chance(2)) {
                words.add(depth > 0 && draw.chance(3) ? Checks.DUP
                        : draw.chance(4) ? Checks.word(Checks.GET, draw.from(0, draw.chance(60) ? 5 : 2))
                        : Checks.word(draw.of(Checks.PUSH, Checks.LOAD), draw.from(0, 3)));
                depth++;
            } else if (draw.chance(4)) {
                words.add(Checks.word(Checks.SKIP, words.size() + 1));
                depth--;
            } else if (draw.chance(4)) {
                int slot = draw.chance(60) ? draw.from(0, 5) : outSlot(t);
                words.add(slot == Checks.NONE ? Checks.DROP : Checks.word(Checks.SET, slot));
                depth--;
            } else {
                words.add(draw.from(Checks.ADD, Checks.SAME));
                depth--;
            }
            if (draw.chance(8)) {
                words.add(Checks.word(Checks.JUMP, words.size() + (draw.chance(30) ? 0 : 1)));
            }
        }
        words.add(Checks.END);
        return words.stream().mapToInt(Integer::intValue).toArray();
    }

    private int outSlot(int t) {
        for (int s = 0; s < 6; s++) {
            if (ways[t][s] == Checks.OUT) {
                return s;
            }
        }
        return Checks.NONE;
    }

    // ---- any calls ----

    /** What they have done, and left undone where they were refused, is asked for at the end. */
    private void makeAnyCalls() {
        if (!draw.chance(4)) {
            buildSomething();
        }
        for (int i = 0; i < 200; i++) {
            anyCall(both, draw);
        }
        for (int i = 0; i < 16; i++) {
            both.call("value", i);
            both.call("actuator", i / 2, i % 2);
        }
        for (int what = 0; what < 5; what++) {
            both.call("about", what);
        }
        for (int i = 0; i < 8 * 17; i++) {
            both.call("job", i / 17, i % 17);
        }
        while (both.callsLeft() > 0) {
            both.call("event", both.callsLeft() / 4, both.callsLeft() % 4);
        }
    }

    private void buildSomething() {
        both.call("mode", 0, 12);
        both.call("use", 0, 0, 1);
        both.call("code", 0, Checks.word(Checks.PUSH, -7));
        both.call("code", 0, Checks.word(Checks.SET, 1));
        both.call("code", 0, Checks.END);
        both.call("wire", 0, 1, 3, Checks.OUT);
    }

    /** Any method with any arguments, most of them near what is right, or at a limit of it. */
    static String anyCall(Both both, Draw draw) {
        int count = draw.from(0, 5);
        Integer[] arguments = new Integer[count];
        for (int i = 0; i < count; i++) {
            arguments[i] = draw.chance(6) ? draw.anyInt() : draw.chance(6) ? draw.of(LIMITS) : draw.from(-1, 4);
        }
        return both.call(METHODS[count][draw.from(0, METHODS[count].length - 1)], arguments);
    }
}
