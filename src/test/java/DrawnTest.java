import java.util.ArrayList;
import java.util.List;
import java.util.Random;

/** Promise 11 against a plain search over drawn programs; and calls with any arguments in any state. */
public final class DrawnTest {
    private static final int PROGRAMS = 40000;
    private static final int OBJECTS = 3000;

    private final Random random;
    private final PeriodKernel kernel = new PeriodKernel();
    private final int[] budgets = new int[8];
    private final int[][] codes = new int[8][];
    private final int[][] ways = new int[8][6];
    private final int[][] slotPorts = new int[8][6];
    private final int[] periods = new int[4];
    private final int[][] often = new int[4][8];
    private final List<List<Integer>> targets = new ArrayList<>();
    private final int[] sensed = new int[8];

    private DrawnTest(long seed) {
        random = new Random(seed);
    }

    public static void main(String[] args) {
        int[] found = new int[7];
        for (int i = 0; i < PROGRAMS; i++) {
            DrawnTest drawn = new DrawnTest(i);
            drawn.draw();
            int want = drawn.plainFault();
            Checks.due("program " + i + ": start()", drawn.kernel.start(), want);
            found[want / 100]++;
        }
        for (int i = 0; i < found.length; i++) {
            Checks.due("programs with fault " + i + " are drawn", found[i] >= 100, true);
        }
        for (int i = 0; i < OBJECTS; i++) {
            anyCalls(new Random(i));
        }
        Checks.end();
    }

    // ---- drawing a program ----

    private boolean chance(int of) {
        return random.nextInt(of) == 0;
    }

    private void draw() {
        int[] evenPeriods = {12, 24, 60, 1, 6, 4};
        int[] evenOften = {1, 2, 3, 4, 6, 12};
        for (int m = 0; m < 4; m++) {
            targets.add(new ArrayList<>());
            periods[m] = chance(m == 0 ? 40 : 2) ? 0 : evenPeriods[random.nextInt(chance(9) ? 6 : 3)];
            kernel.mode(m, periods[m]);
            for (int t = 0; t < 8; t++) {
                often[m][t] = chance(2) ? evenOften[random.nextInt(6)] : chance(90) ? random.nextInt(13) : 0;
                kernel.use(m, t, often[m][t]);
            }
            for (int g = chance(5) ? 1 + random.nextInt(4) : 0; g > 0; g--) {
                targets.get(m).add(random.nextInt(4));
                kernel.guard(m, 0, 0, 0, targets.get(m).get(targets.get(m).size() - 1));
            }
        }
        for (int t = 0; t < 8; t++) {
            drawTask(t);
        }
        for (int s = 0; s < 8; s++) {
            sensed[s] = chance(30) ? random.nextInt(16) : Checks.NONE;
            kernel.sense(s, sensed[s]);
        }
    }

    private void drawTask(int t) {
        budgets[t] = 1 + random.nextInt(chance(3) ? 60 : 20);
        kernel.task(t, budgets[t]);
        for (int s = 0; s < 6; s++) {
            ways[t][s] = s < 3 ? Checks.IN : chance(chance(4) ? 2 : 12) ? Checks.OUT : Checks.NONE;
            slotPorts[t][s] = chance(20) ? random.nextInt(16) : (2 * t + s) % 16;
            kernel.wire(t, s, slotPorts[t][s], ways[t][s]);
        }
        codes[t] = chance(6) ? anyCode() : likelyCode(t);
        Checks.code(kernel, t, codes[t]);
    }

    private int[] anyCode() {
        int[] words = new int[random.nextInt(8)];
        for (int i = 0; i < words.length; i++) {
            int what = chance(40) ? random.nextInt(64) : random.nextInt(17);
            boolean withNumber = what <= 3 || what == 10 || what == 11 || what >= 15;
            words[i] = Checks.word(what, withNumber && what != 0 ? random.nextInt(7) - (chance(20) ? 1 : 0) : 0);
        }
        return words;
    }

    /** Code that keeps its stack in order, with jumps forwards and back to the word before. */
    private int[] likelyCode(int t) {
        List<Integer> words = new ArrayList<>();
        int depth = 0;
        for (int i = random.nextInt(14); i > 0; i--) {
            if (depth < 2 || depth < 8 && chance(2)) {
                words.add(depth > 0 && chance(3) ? Checks.DUP
                        : chance(4) ? Checks.word(Checks.GET, random.nextInt(chance(60) ? 6 : 3))
                        : Checks.word(chance(2) ? Checks.PUSH : Checks.LOAD, random.nextInt(4)));
                depth++;
            } else if (chance(4)) {
                words.add(Checks.word(Checks.SKIP, words.size() + 1));
                depth--;
            } else if (chance(4)) {
                int slot = chance(60) ? random.nextInt(6) : outSlot(t);
                words.add(slot == Checks.NONE ? Checks.DROP : Checks.word(Checks.SET, slot));
                depth--;
            } else {
                words.add(Checks.ADD + random.nextInt(6));
                depth--;
            }
            if (chance(8)) {
                words.add(Checks.word(Checks.JUMP, words.size() + (chance(30) ? 0 : 1)));
            }
        }
        words.add(Checks.END);
        return words.stream().mapToInt(Integer::intValue).toArray();
    }

    private int outSlot(int t) {
        for (int s = 0; s < 6; s++) {
            if (ways[t][s] == Checks.OUT) {
                return s;
            }
        }
        return Checks.NONE;
    }

    // ---- the plain search ----

    private boolean used(int m, int t) {
        return periods[m] > 0 && often[m][t] > 0;
    }

    private boolean usedAnywhere(int t) {
        return used(0, t) || used(1, t) || used(2, t) || used(3, t);
    }

    private int plainFault() {
        for (int kind = 1; kind <= 6; kind++) {
            for (int i = 0; i < (kind <= 2 ? 8 : 4); i++) {
                if (isFault(kind, i)) {
                    return 100 * kind + i;
                }
            }
        }
        return 0;
    }

    private boolean isFault(int kind, int i) {
        switch (kind) {
            case 1:
                return usedAnywhere(i) && isBroken(i);
            case 2:
                return usedAnywhere(i) && isMiswired(i);
            case 3:
                return i == 0 && periods[0] == 0 || isUneven(i);
            case 4:
                return i == 0 && sensorsMeet() || periods[i] > 0 && writersMeet(i);
            case 5:
                return periods[i] > 0 && targets.get(i).stream().anyMatch(to -> periods[to] == 0);
            default:
                return isOverloaded(i);
        }
    }

    /** Every pair of a word and a depth that can be come to, found by walking until none is new. */
    private boolean[][] walk(int t) {
        boolean[][] seen = new boolean[34][12];
        seen[0][0] = true;
        for (boolean more = true; more;) {
            more = false;
            for (int at = 0; at < codes[t].length; at++) {
                for (int depth = 0; depth <= 8; depth++) {
                    if (seen[at][depth]) {
                        int what = codes[t][at] & 63;
                        int n = codes[t][at] >> 6;
                        int after = depth + growth(what);
                        boolean jumps = what == 10 || what == 11;
                        if (what <= 16 && after >= 0) {
                            if (what != 0 && what != 10) {
                                more |= !seen[at + 1][after];
                                seen[at + 1][after] = true;
                            }
                            if (jumps && n >= 0 && n < codes[t].length) {
                                more |= !seen[n][after];
                                seen[n][after] = true;
                            }
                        }
                    }
                }
            }
        }
        return seen;
    }

    private static int growth(int what) {
        return what == 1 || what == 2 || what == 12 || what == 15 ? 1 : what == 0 || what == 10 || what == 13 ? 0 : -1;
    }

    private static int needs(int what) {
        return what >= 4 && what <= 9 || what == 13 ? 2 : what == 3 || what == 11 || what == 12 || what == 14
                || what == 16 ? 1 : 0;
    }

    private boolean isBroken(int t) {
        boolean[][] seen = walk(t);
        for (int at = 0; at < seen.length; at++) {
            int ways = 0;
            for (int depth = 0; depth < seen[at].length; depth++) {
                if (seen[at][depth]) {
                    ways++;
                    if (at >= codes[t].length || depth > 8 || isWrongWord(t, at, depth)) {
                        return true;
                    }
                }
            }
            if (ways > 1) {
                return true;
            }
        }
        return false;
    }

    private boolean isWrongWord(int t, int at, int depth) {
        int what = codes[t][at] & 63;
        int n = codes[t][at] >> 6;
        int most = what == 1 ? Integer.MAX_VALUE : what == 2 || what == 3 ? 5 : what == 15 || what == 16 ? 3
                : what == 10 || what == 11 ? codes[t].length - 1 : 0;
        return what > 16 || what != 1 && n < 0 || n > most || depth < needs(what);
    }

    private boolean isMiswired(int t) {
        boolean[][] seen = walk(t);
        for (int at = 0; at < codes[t].length; at++) {
            for (int depth = 0; depth <= 8; depth++) {
                int what = codes[t][at] & 63;
                int n = codes[t][at] >> 6;
                if (seen[at][depth]
                        && (what == 2 && ways[t][n] != Checks.IN || what == 3 && ways[t][n] != Checks.OUT)) {
                    return true;
                }
            }
        }
        return false;
    }

    private boolean isUneven(int m) {
        for (int t = 0; t < 8; t++) {
            if (used(m, t) && periods[m] % often[m][t] != 0) {
                return true;
            }
        }
        return false;
    }

    private boolean sensorsMeet() {
        for (int s = 0; s < 8; s++) {
            for (int other = 0; other < s; other++) {
                if (sensed[s] != Checks.NONE && sensed[s] == sensed[other]) {
                    return true;
                }
            }
        }
        return false;
    }

    private boolean writersMeet(int m) {
        int[] writers = new int[16];
        for (int s = 0; s < 8; s++) {
            if (sensed[s] != Checks.NONE) {
                writers[sensed[s]]++;
            }
        }
        boolean meet = false;
        for (int t = 0; t < 8; t++) {
            for (int s = 0; s < 6; s++) {
                if (used(m, t) && ways[t][s] == Checks.OUT) {
                    writers[slotPorts[t][s]]++;
                    meet |= writers[slotPorts[t][s]] > 1;
                }
            }
        }
        return meet;
    }

    /** Over every a and b, as the document tells it. */
    private boolean isOverloaded(int m) {
        List<int[]> jobs = new ArrayList<>();
        for (int t = 0; t < 8; t++) {
            for (int k = 0; used(m, t) && k < often[m][t]; k++) {
                int length = periods[m] / often[m][t];
                jobs.add(new int[] {k * length, (k + 1) * length, budgets[t]});
            }
        }
        for (int a = 0; a <= periods[m]; a++) {
            for (int b = a + 1; b <= periods[m]; b++) {
                int sum = 0;
                for (int[] job : jobs) {
                    sum += job[0] >= a && job[1] <= b ? job[2] : 0;
                }
                if (sum > 20 * (b - a)) {
                    return true;
                }
            }
        }
        return false;
    }

    // ---- any calls ----

    /** No call throws but by the document; a twin that is spared the calls that throw tells the same. */
    private static void anyCalls(Random random) {
        boolean built = random.nextInt(4) > 0;
        PeriodKernel kernel = forAnyCalls(built);
        PeriodKernel twin = forAnyCalls(built);
        for (int i = 0; i < 200; i++) {
            int call = random.nextInt(19);
            int[] a = new int[5];
            for (int k = 0; k < 5; k++) {
                a[k] = anyArgument(random);
            }
            String thrown = make(kernel, call, a);
            Checks.due("call " + call + " throws " + thrown, mayThrow(call).contains(thrown), true);
            if (thrown.isEmpty()) {
                make(twin, call, a);
            }
        }
        Checks.due("all that is told behind calls that throw", answers(kernel), answers(twin));
    }

    private static PeriodKernel forAnyCalls(boolean built) {
        PeriodKernel kernel = new PeriodKernel();
        if (built) {
            kernel.mode(0, 12);
            kernel.use(0, 0, 1);
            kernel.code(0, Checks.word(Checks.PUSH, -7));
            kernel.code(0, Checks.word(Checks.SET, 1));
            kernel.code(0, Checks.END);
            kernel.wire(0, 1, 3, Checks.OUT);
        }
        return kernel;
    }

    private static int anyArgument(Random random) {
        switch (random.nextInt(12)) {
            case 0:
                return random.nextInt();
            case 1:
                return random.nextBoolean() ? Integer.MIN_VALUE : Integer.MAX_VALUE;
            case 2:
                return random.nextInt(70) - 3;
            default:
                return random.nextInt(6) - (random.nextInt(9) == 0 ? 2 : 0);
        }
    }

    private static String mayThrow(int call) {
        String[] may = {"IAS", "IAS", "IAS", "IAS", "IAS", "IAS", "IAS", "IS", "IS", "S", "I", "I", "AS", "S", "I"};
        return call < may.length ? may[call] : "";
    }

    private static String make(PeriodKernel kernel, int call, int[] a) {
        try {
            makeCall(kernel, call, a);
            return "";
        } catch (IndexOutOfBoundsException e) {
            return e.getClass() == IndexOutOfBoundsException.class ? "I" : e.toString();
        } catch (IllegalArgumentException e) {
            return "A";
        } catch (IllegalStateException e) {
            return "S";
        } catch (RuntimeException e) {
            return e.toString();
        }
    }

    private static void makeCall(PeriodKernel kernel, int call, int[] a) {
        switch (call) {
            case 0: kernel.task(a[0], a[1]); break;
            case 1: kernel.code(a[0], a[1]); break;
            case 2: kernel.port(a[0], a[1], a[2], a[3]); break;
            case 3: kernel.wire(a[0], a[1], a[2], a[3]); break;
            case 4: kernel.mode(a[0], a[1]); break;
            case 5: kernel.use(a[0], a[1], a[2]); break;
            case 6: kernel.guard(a[0], a[1], a[2], a[3], a[4]); break;
            case 7: kernel.sense(a[0], a[1]); break;
            case 8: kernel.actuate(a[0], a[1]); break;
            case 9: kernel.start(); break;
            case 10: kernel.sensor(a[0], a[1]); break;
            case 11: kernel.pick(a[0]); break;
            case 12: kernel.step(a[0]); break;
            case 13: kernel.advance(); break;
            case 14: kernel.value(a[0]); break;
            case 15: kernel.actuator(a[0], a[1]); break;
            case 16: kernel.about(a[0]); break;
            case 17: kernel.job(a[0], a[1]); break;
            default: kernel.event(a[0], a[1]); break;
        }
    }

    /** In one number; with all other calls together no more than an object is used for. */
    private static long answers(PeriodKernel kernel) {
        long all = 0;
        for (int i = 0; i < 16; i++) {
            all = all * 31 + kernel.value(i);
            all = all * 31 + kernel.actuator(i / 2, i % 2);
        }
        for (int what = 0; what < 5; what++) {
            all = all * 31 + kernel.about(what);
        }
        for (int i = 0; i < 8 * 17; i++) {
            all = all * 31 + kernel.job(i / 17, i % 17);
        }
        for (int i = 0; i < 30 * 4; i++) {
            all = all * 31 + kernel.event(i / 4, i % 4);
        }
        return all;
    }
}
