/**
 * Events of six processes, which of them are before which, and a cut through them.
 *
 * <p>Every event keeps its clock row: how many events of each process are before it or are it.
 * Such a row already counts whatever is before what is before the event, so every question about
 * order, and about cuts, is answered from the rows alone.
 */
public final class CausalDesk {
    private static final int PROCESSES = 6;
    private static final int MOST_EVENTS = 200;
    private static final int NO_EVENT = -1;

    private final int[] processes;
    private final boolean[] senders;
    private final int[] ranks;
    /** The clock rows one behind the other, PROCESSES numbers for each event. */
    private final int[] clocks;
    /** How many events of each process the cut has. */
    private final int[] cutSizes;
    private int made;

    public CausalDesk() {
        processes = new int[MOST_EVENTS];
        senders = new boolean[MOST_EVENTS];
        ranks = new int[MOST_EVENTS];
        clocks = new int[MOST_EVENTS * PROCESSES];
        cutSizes = new int[PROCESSES];
        made = 0;
    }

    public int own(int process) throws IllegalArgumentException, IndexOutOfBoundsException {
        needProcess(process);
        needRoom();
        return add(process, false, NO_EVENT);
    }

    public int send(int process) throws IllegalArgumentException, IndexOutOfBoundsException {
        needProcess(process);
        needRoom();
        return add(process, true, NO_EVENT);
    }

    public int receive(int process, int e) throws IllegalArgumentException, IndexOutOfBoundsException {
        needProcess(process);
        if (!isEvent(e) || !senders[e] || processes[e] == process) {
            throw new IllegalArgumentException();
        }
        needRoom();
        return add(process, false, e);
    }

    public void undo(int n) throws IllegalArgumentException {
        if (n < 0 || n > made) {
            throw new IllegalArgumentException();
        }
        made -= n;
        for (int process = 0; process < PROCESSES; process++) {
            cutSizes[process] = Math.min(cutSizes[process], lengthOf(process));
        }
    }

    public boolean before(int e, int f) throws IndexOutOfBoundsException {
        needEvent(e);
        needEvent(f);
        return precedes(e, f);
    }

    public boolean apart(int e, int f) throws IndexOutOfBoundsException {
        needEvent(e);
        needEvent(f);
        return e != f && !precedes(e, f) && !precedes(f, e);
    }

    public int rank(int e) throws IndexOutOfBoundsException {
        needEvent(e);
        return rankOf(e);
    }

    public int clock(int e, int process) throws IllegalArgumentException, IndexOutOfBoundsException {
        needProcess(process);
        needEvent(e);
        return clockOf(e, process);
    }

    public void cut(int process, int n) throws IllegalArgumentException {
        needProcess(process);
        if (n < 0 || n > lengthOf(process)) {
            throw new IllegalArgumentException();
        }
        cutSizes[process] = n;
    }

    public boolean whole() {
        for (int e = 0; e < made; e++) {
            if (isInCut(e) && !isCoveredByCut(e)) {
                return false;
            }
        }
        return true;
    }

    public int close() {
        // Growing as we go is safe: an event that comes in by this has its row in the cut already.
        for (int e = 0; e < made; e++) {
            if (isInCut(e)) {
                growCutTo(e);
            }
        }
        return cutTotal();
    }

    public int open() {
        // Shrinking as we go is safe: what is before a covered event is covered too, so it stays.
        for (int e = 0; e < made; e++) {
            if (isInCut(e) && !isCoveredByCut(e)) {
                cutSizes[processes[e]] = placeOf(e) - 1;
            }
        }
        return cutTotal();
    }

    public int count(int what) throws IllegalArgumentException {
        switch (what) {
            case 0:
                return made;
            case 1:
                return apartPairs();
            case 2:
                return greatestRank();
            case 3:
                return cutTotal();
            default:
                throw new IllegalArgumentException();
        }
    }

    private static void needProcess(int process) {
        if (process < 0 || process >= PROCESSES) {
            throw new IllegalArgumentException();
        }
    }

    private void needRoom() {
        if (made >= MOST_EVENTS) {
            throw new IndexOutOfBoundsException();
        }
    }

    private void needEvent(int e) {
        if (!isEvent(e)) {
            throw new IndexOutOfBoundsException();
        }
    }

    private boolean isEvent(int e) {
        return e >= 0 && e < made;
    }

    /** Overwrites all that an undone event may have left in the row. */
    private int add(int process, boolean sends, int sender) {
        int e = made;
        int previous = latestOf(process);
        for (int p = 0; p < PROCESSES; p++) {
            clocks[e * PROCESSES + p] = Math.max(clockOf(previous, p), clockOf(sender, p));
        }
        clocks[e * PROCESSES + process]++;
        ranks[e] = 1 + Math.max(rankOf(previous), rankOf(sender));
        processes[e] = process;
        senders[e] = sends;
        made++;
        return e;
    }

    private int latestOf(int process) {
        for (int e = made - 1; e >= 0; e--) {
            if (processes[e] == process) {
                return e;
            }
        }
        return NO_EVENT;
    }

    private int lengthOf(int process) {
        return clockOf(latestOf(process), process);
    }

    private int clockOf(int e, int process) {
        return e == NO_EVENT ? 0 : clocks[e * PROCESSES + process];
    }

    private int rankOf(int e) {
        return e == NO_EVENT ? 0 : ranks[e];
    }

    /** Which one of its process the event is, from 1: its clock for its own process tells. */
    private int placeOf(int e) {
        return clockOf(e, processes[e]);
    }

    private boolean precedes(int e, int f) {
        return e != f && placeOf(e) <= clockOf(f, processes[e]);
    }

    private boolean isInCut(int e) {
        return placeOf(e) <= cutSizes[processes[e]];
    }

    private boolean isCoveredByCut(int e) {
        for (int process = 0; process < PROCESSES; process++) {
            if (clockOf(e, process) > cutSizes[process]) {
                return false;
            }
        }
        return true;
    }

    private void growCutTo(int e) {
        for (int process = 0; process < PROCESSES; process++) {
            cutSizes[process] = Math.max(cutSizes[process], clockOf(e, process));
        }
    }

    private int cutTotal() {
        int total = 0;
        for (int process = 0; process < PROCESSES; process++) {
            total += cutSizes[process];
        }
        return total;
    }

    /** Of the f events made earlier than f, those that are not before f are apart from it. */
    private int apartPairs() {
        int pairs = 0;
        for (int f = 0; f < made; f++) {
            pairs += f - countBefore(f);
        }
        return pairs;
    }

    private int countBefore(int f) {
        int known = 0;
        for (int process = 0; process < PROCESSES; process++) {
            known += clockOf(f, process);
        }
        return known - 1;
    }

    private int greatestRank() {
        int greatest = 0;
        for (int e = 0; e < made; e++) {
            greatest = Math.max(greatest, rankOf(e));
        }
        return greatest;
    }
}
