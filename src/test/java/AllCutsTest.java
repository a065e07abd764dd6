import java.util.Random;

/** Goes through every cut of small desks: the least and the greatest whole ones are looked up. */
public final class AllCutsTest {
    private static final int DESKS = 12;
    private static final int EVENTS = 12;

    private final CausalDesk desk = new CausalDesk();
    private final int[] lengths = new int[6];
    private final int[][] cuts;

    private AllCutsTest(int seed) {
        Random random = new Random(seed);
        for (int e = 0; e < EVENTS; e++) {
            addOne(random);
        }
        int number = 1;
        for (int length : lengths) {
            number *= length + 1;
        }
        cuts = new int[number][];
        for (int i = 0; i < number; i++) {
            cuts[i] = cutNumber(i);
        }
    }

    public static void main(String[] args) {
        for (int seed = 0; seed < DESKS; seed++) {
            new AllCutsTest(seed).checkAll();
        }
        Checks.finish();
    }

    private void addOne(Random random) {
        int process = random.nextInt(4);
        int from = random.nextInt(EVENTS);
        boolean received = random.nextBoolean()
                && Checks.thrownBy(() -> desk.receive(process, from)).equals("nothing");
        if (!received) {
            desk.send(process);
        }
        lengths[process]++;
    }

    private int[] cutNumber(int number) {
        int[] sizes = new int[6];
        int rest = number;
        for (int process = 0; process < 6; process++) {
            sizes[process] = rest % (lengths[process] + 1);
            rest /= lengths[process] + 1;
        }
        return sizes;
    }

    private void checkAll() {
        boolean[] whole = new boolean[cuts.length];
        for (int i = 0; i < cuts.length; i++) {
            whole[i] = isWhole(cuts[i]);
            put(cuts[i]);
            if (desk.whole() != whole[i]) {
                Checks.report("whole() of cut " + i);
            }
        }
        for (int i = 0; i < cuts.length; i++) {
            int[] least = null;
            int[] greatest = null;
            for (int j = 0; j < cuts.length; j++) {
                if (whole[j] && isIn(cuts[i], cuts[j]) && (least == null || isIn(cuts[j], least))) {
                    least = cuts[j];
                }
                if (whole[j] && isIn(cuts[j], cuts[i]) && (greatest == null || isIn(greatest, cuts[j]))) {
                    greatest = cuts[j];
                }
            }
            put(cuts[i]);
            Checks.same("close() of cut " + i, desk.close(), total(least));
            checkCut("close() of cut " + i, least);
            put(cuts[i]);
            Checks.same("open() of cut " + i, desk.open(), total(greatest));
            checkCut("open() of cut " + i, greatest);
        }
    }

    /** By before() and the terms alone, with no help from whole(). */
    private boolean isWhole(int[] sizes) {
        for (int f = 0; f < EVENTS; f++) {
            for (int e = 0; e < EVENTS; e++) {
                if (has(sizes, f) && desk.before(e, f) && !has(sizes, e)) {
                    return false;
                }
            }
        }
        return true;
    }

    private boolean has(int[] sizes, int e) {
        int process = processOf(e);
        return desk.clock(e, process) <= sizes[process];
    }

    /** The one process whose clock no earlier event of a greater clock explains. */
    private int processOf(int e) {
        for (int process = 0; process < 6; process++) {
            int most = 0;
            for (int other = 0; other < e; other++) {
                most = Math.max(most, desk.clock(other, process));
            }
            if (desk.clock(e, process) > most) {
                return process;
            }
        }
        return 0;
    }

    private void put(int[] sizes) {
        for (int process = 0; process < 6; process++) {
            desk.cut(process, sizes[process]);
        }
    }

    private void checkCut(String what, int[] due) {
        for (int process = 0; process < 6; process++) {
            int all = desk.count(3);
            desk.cut(process, 0);
            Checks.same(what + ", process " + process, all - desk.count(3), due[process]);
        }
    }

    private static boolean isIn(int[] small, int[] great) {
        for (int process = 0; process < 6; process++) {
            if (small[process] > great[process]) {
                return false;
            }
        }
        return true;
    }

    private static int total(int[] sizes) {
        int total = 0;
        for (int size : sizes) {
            total += size;
        }
        return total;
    }
}
