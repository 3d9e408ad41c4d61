import java.util.ArrayList;
import java.util.List;
import java.util.Map;
import java.util.TreeMap;

/**
 * Promises 1 to 20 over drawn stories of calls: a program is built, mended until it starts, and run, with
 * wrong calls among the right ones; every answer is held against the model's.
 */
public final class StoryTest extends Checks {
    private static final int STORIES = 4000;

    /** What must come about in some of the stories, or they would be too dull to tell anything. */
    private static final String[] DUE = {"throws.java.lang.IndexOutOfBoundsException",
        "throws.java.lang.IllegalArgumentException", "throws.java.lang.IllegalStateException", "fault 1", "fault 2",
        "fault 3", "fault 4", "fault 5", "fault 6", "it runs", "another mode", "an overrun", "an event that is kept",
        "more events than are kept", "a time beyond 60", "an actuator's CHANGE"};

    private static final Map<String, Integer> SEEN = new TreeMap<>();

    private final Draw draw;
    private final Both both;
    private final int[] budgets = new int[8];
    private int tasks;
    /** Every task is published at nearly every time. */
    private boolean dense;
    private String mode = "0";

    private StoryTest(long seed) {
        draw = new Draw(seed);
        both = new Both("story " + seed);
    }

    public static void main(String[] args) {
        for (int i = 0; i < STORIES; i++) {
            new StoryTest(i).tell();
        }
        for (String one : DUE) {
            due("stories with " + one + " are drawn", SEEN.getOrDefault(one, 0) >= 100, true);
        }
        end();
    }

    private static void see(String what, boolean is) {
        if (is) {
            SEEN.merge(what, 1, Integer::sum);
        }
    }

    private String call(String method, Integer... arguments) {
        return both.call(method, arguments);
    }

    private void makeAnyCall() {
        String answer = DrawnTest.anyCall(both, draw);
        see(answer, answer.startsWith("throws."));
    }

    private void tell() {
        build();
        String fault = call("start");
        for (int i = 0; i < 9 && fault.length() == 3; i++) {
            mend(Integer.parseInt(fault));
            fault = call("start");
        }
        see("it runs", fault.equals("0"));
        int left = both.callsLeft();
        while (both.callsLeft() > left / 4) {
            goOn();
        }
        while (both.callsLeft() > 0) {
            ask();
        }
    }

    // ---- building ----

    private void build() {
        dense = draw.chance(5);
        tasks = dense ? 8 : draw.from(1, draw.chance(4) ? 8 : 4);
        for (int port = 0; port < 16; port++) {
            drawPort(port);
        }
        boolean slow = draw.chance(3);
        for (int m = 0; m < 4; m++) {
            int period = dense ? draw.from(1, 2) : slow ? 60 : draw.of(1, 2, 3, 4, 6, 6, 12, 12, 24, 60);
            call("mode", m, m > 0 && draw.chance(3) ? 0 : period);
            for (int t = 0; t < tasks; t++) {
                drawUse(m, t);
            }
        }
        for (int t = 0; t < tasks; t++) {
            drawTask(t);
        }
        for (int g = draw.from(0, 8); g > 0; g--) {
            call("guard", draw.from(0, 3), draw.from(0, 15), draw.from(0, 5), draw.anyInt(), draw.from(0, 3));
        }
        for (int i = 0; i < 8; i++) {
            drawBindings(i);
        }
        for (int i = draw.from(0, 3); i > 0; i--) {
            makeAnyCall();
        }
    }

    private void drawPort(int port) {
        int least = draw.chance(9) ? LEAST : draw.from(-12, 3);
        int greatest = draw.chance(9) ? GREATEST : draw.from(Math.max(least, -3), 12);
        if (!draw.chance(9)) {
            call("port", port, least, greatest, draw.of(least, greatest, Math.max(least, Math.min(greatest, 0))));
        }
    }

    private void drawUse(int m, int t) {
        if (dense) {
            call("use", m, t, draw.from(1, 2));
        } else if (!draw.chance(4)) {
            call("use", m, t, draw.chance(60) ? draw.from(0, 12) : draw.of(0, 0, 1, 1, 1, 1, 1, 2, 2, 3, 4, 6, 12));
        }
    }

    /** Slots 0 .. 2 are IN, 3 and 4 OUT, 5 is left as it is; each task writes at ports of its own. */
    private void drawTask(int t) {
        budgets[t] = dense ? draw.from(1, 4) : draw.from(1, draw.chance(6) ? 60 : 20);
        call("task", t, budgets[t]);
        for (int slot = 0; slot <= 2; slot++) {
            if (!draw.chance(60)) {
                call("wire", t, slot, draw.from(0, 15), draw.chance(40) ? draw.from(NONE, OUT) : IN);
            }
        }
        call("wire", t, 3, draw.chance(60) ? draw.from(0, 15) : t, OUT);
        if (dense || draw.chance(3)) {
            call("wire", t, 4, 8 + t, OUT);
        }
        for (int word : draw.chance(30) ? draw.anyCode() : soundCode()) {
            call("code", t, word);
        }
    }

    private void drawBindings(int i) {
        if (draw.chance(3)) {
            call("actuate", i, draw.chance(9) ? NONE : draw.from(0, 15));
        }
        if (draw.chance(3)) {
            call("sense", i, draw.chance(9) ? NONE : draw.chance(60) ? draw.from(0, 15) : 8 + i);
            call("sensor", i, draw.anyInt());
        }
    }

    /** Code with its stack in order: it goes back only to where it had as many on that. */
    private int[] soundCode() {
        List<Integer> words = new ArrayList<>();
        List<Integer> depths = new ArrayList<>();
        int depth = 0;
        for (int i = draw.from(0, dense ? 5 : 15); i > 0; i--) {
            depths.add(depth);
            int back = depths.indexOf(depth - 1);
            if (depth == 0 || depth < 8 && draw.chance(3)) {
                words.add(depth > 0 && draw.chance(4) ? DUP : aPush());
                depth++;
            } else if (draw.chance(6)) {
                words.add(word(SKIP, back >= 0 && draw.chance(2) ? back : words.size() + 1));
                depth--;
            } else if (draw.chance(8)) {
                words.add(word(JUMP, words.size() + 1));
            } else if (depth > 1 && draw.chance(8)) {
                words.add(SWAP);
            } else {
                words.add(depth == 1 || draw.chance(3) ? aTaker() : draw.from(ADD, SAME));
                depth--;
            }
        }
        int again = depths.indexOf(depth);
        words.add(again >= 0 && draw.chance(6) ? word(JUMP, again) : END);
        return words.stream().mapToInt(Integer::intValue).toArray();
    }

    private int aPush() {
        int n = draw.chance(5) ? draw.from(-33554432, 33554431) : draw.from(-9, 9);
        return draw.of(word(PUSH, n), word(GET, draw.from(0, 2)), word(LOAD, draw.from(0, 3)));
    }

    private int aTaker() {
        int slot = draw.chance(40) ? draw.from(0, 5) : 3;
        return draw.of(word(SET, slot), word(SET, slot), word(STORE, draw.from(0, 3)), DROP);
    }

    /** Builds on behind a fault, so that it is not there the next time, or not as it was. */
    private void mend(int fault) {
        int at = fault % 100;
        see("fault " + fault / 100, true);
        for (int i = 0; i < 8; i++) {
            switch (fault / 100) {
                case 1, 2 -> call("use", i % 4, at, 0);
                case 3 -> mendPeriod(at, i);
                case 4 -> mendPorts(i);
                case 5 -> call("mode", i % 4, 12);
                default -> mendBudget(i);
            }
        }
    }

    private void mendPeriod(int m, int t) {
        call("mode", m, 12);
        if (t < tasks) {
            call("use", m, t, 1);
        }
    }

    private void mendPorts(int i) {
        call("sense", i, NONE);
        call("wire", i, 3, i, OUT);
    }

    private void mendBudget(int t) {
        budgets[t] = Math.max(1, budgets[t] / 2);
        call("task", t, budgets[t]);
    }

    // ---- running ----

    private void goOn() {
        switch (draw.from(0, 11)) {
            case 0 -> call("sensor", draw.from(0, 7), draw.anyInt());
            case 1 -> call("pick", draw.from(0, 4));
            case 2 -> call("step", draw.from(0, 9));
            case 3 -> makeAnyCall();
            case 4, 5 -> ask();
            case 6 -> advance();
            default -> {
                call("step", 2000);
                advance();
            }
        }
    }

    private void advance() {
        String time = call("advance");
        see("a time beyond 60", time.length() == 2 && time.compareTo("60") > 0);
        String now = call("about", 1);
        see("another mode", now.length() == 1 && !now.equals(mode));
        mode = now;
    }

    private void ask() {
        switch (draw.from(0, 6)) {
            case 0 -> call("value", draw.from(0, 15));
            case 1 -> see("an actuator's CHANGE", call("actuator", draw.from(0, 7), 1).length() == 2);
            case 2 -> call("actuator", draw.from(0, 7), 0);
            case 3 -> askForEvent();
            case 4 -> call("about", draw.from(0, 4));
            default -> askForJob();
        }
    }

    private void askForEvent() {
        int i = draw.chance(3) ? draw.from(280, 310) : draw.from(0, 60);
        boolean kept = !call("event", i, draw.from(0, 3)).equals(String.valueOf(NONE));
        see("an event that is kept", kept);
        String count = call("about", 3);
        see("more events than are kept", count.length() == 3 && count.compareTo("300") > 0);
    }

    private void askForJob() {
        int what = draw.from(0, 16);
        String answer = call("job", draw.from(0, 4), what);
        see("an overrun", what == 10 && answer.equals("1"));
    }
}
