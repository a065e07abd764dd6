import java.util.Random;

/** Goes through every cut of small desks: the least and the greatest whole ones are looked up. */
public final class AllCutsTest {
    private static final int DESKS = 12;
    private static final int EVENTS = 12;
    private static final int NOTHING = -1;

    /** What the desk is made of: for each event its process and, unless it sends, what it receives. */
    private final int[] processes = new int[EVENTS];
    private final int[] received = new int[EVENTS];
    private final int[] places = new int[EVENTS];
    private final int[] lengths = new int[Desks.PROCESSES];
    private final boolean[][] before = new boolean[EVENTS][EVENTS];
    private final int[][] cuts;

    private AllCutsTest(int seed) {
        Random random = new Random(seed);
        for (int e = 0; e < EVENTS; e++) {
            addOne(e, random);
        }
        CausalDesk desk = desk();
        for (int e = 0; e < EVENTS; e++) {
            for (int f = 0; f < EVENTS; f++) {
                before[e][f] = desk.before(e, f);
            }
        }
        int number = 1;
        for (int length : lengths) {
            number *= length + 1;
        }
        cuts = new int[number][];
        for (int i = 0; i < number; i++) {
            cuts[i] = cutNumber(i);
        }
    }

    public static void main(String[] args) {
        for (int seed = 0; seed < DESKS; seed++) {
            new AllCutsTest(seed).checkAll();
        }
        Checks.finish();
    }

    private void addOne(int e, Random random) {
        int from = random.nextInt(EVENTS);
        processes[e] = random.nextInt(4);
        boolean canReceive = from < e && received[from] == NOTHING && processes[from] != processes[e];
        received[e] = canReceive && random.nextInt(3) > 0 ? from : NOTHING;
        lengths[processes[e]]++;
        places[e] = lengths[processes[e]];
    }

    /** A new one for each cut, so that none is used for more calls than the document promises. */
    private CausalDesk desk() {
        CausalDesk desk = new CausalDesk();
        for (int e = 0; e < EVENTS; e++) {
            if (received[e] == NOTHING) {
                desk.send(processes[e]);
            } else {
                desk.receive(processes[e], received[e]);
            }
        }
        return desk;
    }

    private CausalDesk deskWith(int[] cut) {
        CausalDesk desk = desk();
        Desks.cutAll(desk, cut);
        return desk;
    }

    private int[] cutNumber(int number) {
        int[] sizes = new int[Desks.PROCESSES];
        int rest = number;
        for (int process = 0; process < Desks.PROCESSES; process++) {
            sizes[process] = rest % (lengths[process] + 1);
            rest /= lengths[process] + 1;
        }
        return sizes;
    }

    private void checkAll() {
        boolean[] whole = new boolean[cuts.length];
        for (int i = 0; i < cuts.length; i++) {
            whole[i] = isWhole(cuts[i]);
        }
        for (int i = 0; i < cuts.length; i++) {
            int[] least = null;
            int[] greatest = null;
            for (int j = 0; j < cuts.length; j++) {
                if (whole[j] && isIn(cuts[i], cuts[j]) && (least == null || isIn(cuts[j], least))) {
                    least = cuts[j];
                }
                if (whole[j] && isIn(cuts[j], cuts[i]) && (greatest == null || isIn(greatest, cuts[j]))) {
                    greatest = cuts[j];
                }
            }
            checkCut(i, whole[i], least, greatest);
        }
    }

    private void checkCut(int i, boolean whole, int[] least, int[] greatest) {
        CausalDesk closed = deskWith(cuts[i]);
        if (closed.whole() != whole) {
            Checks.report("whole() of cut " + i);
        }
        Checks.same("close() of cut " + i, closed.close(), total(least));
        Desks.cutIs("close() of cut " + i, closed, least);
        CausalDesk opened = deskWith(cuts[i]);
        Checks.same("open() of cut " + i, opened.open(), total(greatest));
        Desks.cutIs("open() of cut " + i, opened, greatest);
    }

    /** By before() and the terms alone, with no help from whole(). */
    private boolean isWhole(int[] sizes) {
        for (int f = 0; f < EVENTS; f++) {
            for (int e = 0; e < EVENTS; e++) {
                if (has(sizes, f) && before[e][f] && !has(sizes, e)) {
                    return false;
                }
            }
        }
        return true;
    }

    private boolean has(int[] sizes, int e) {
        return places[e] <= sizes[processes[e]];
    }

    private static boolean isIn(int[] small, int[] great) {
        for (int process = 0; process < Desks.PROCESSES; process++) {
            if (small[process] > great[process]) {
                return false;
            }
        }
        return true;
    }

    private static int total(int[] sizes) {
        int total = 0;
        for (int size : sizes) {
            total += size;
        }
        return total;
    }
}
