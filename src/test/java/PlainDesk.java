import java.util.ArrayList;
import java.util.List;

/**
 * The document's terms taken word for word, without clock rows: steps between events, and what is
 * reached by them. Slow and plain, so that CausalDesk can be held against it.
 */
final class PlainDesk {
    private static final int NONE = -1;

    /** The place tells which one of its process the event is, from 1. */
    private record Event(int process, boolean sends, int sender, int place) {
    }

    private final List<Event> events = new ArrayList<>();
    private final int[] cut = new int[6];

    int own(int process) {
        return add(process, false, NONE);
    }

    int send(int process) {
        return add(process, true, NONE);
    }

    int receive(int process, int e) {
        needProcess(process);
        boolean sends = e >= 0 && e < events.size() && events.get(e).sends();
        if (!sends || events.get(e).process() == process) {
            throw new IllegalArgumentException();
        }
        return add(process, false, e);
    }

    void undo(int n) {
        if (n < 0 || n > events.size()) {
            throw new IllegalArgumentException();
        }
        for (int i = 0; i < n; i++) {
            events.remove(events.size() - 1);
        }
        for (int process = 0; process < 6; process++) {
            cut[process] = Math.min(cut[process], of(process).size());
        }
    }

    boolean before(int e, int f) {
        needEvent(e);
        needEvent(f);
        return e != f && reached(e)[f];
    }

    boolean apart(int e, int f) {
        needEvent(e);
        needEvent(f);
        return e != f && !before(e, f) && !before(f, e);
    }

    int rank(int e) {
        needEvent(e);
        return ranks()[e];
    }

    int clock(int e, int process) {
        needProcess(process);
        needEvent(e);
        int clock = 0;
        for (int other : of(process)) {
            if (other == e || before(other, e)) {
                clock++;
            }
        }
        return clock;
    }

    void cut(int process, int n) {
        needProcess(process);
        if (n < 0 || n > of(process).size()) {
            throw new IllegalArgumentException();
        }
        cut[process] = n;
    }

    boolean whole() {
        return isWhole(inCut());
    }

    /** Adds missing events, one after the other, until none is missing. */
    int close() {
        while (!whole()) {
            boolean[] in = inCut();
            for (int e = 0; e < events.size(); e++) {
                if (!in[e] && isBeforeOneOf(e, in)) {
                    cut[events.get(e).process()] = events.get(e).place();
                }
            }
        }
        return count(3);
    }

    /** Takes events away that lack one, and what follows them, until none lacks one. */
    int open() {
        while (!whole()) {
            boolean[] in = inCut();
            for (int e = 0; e < events.size(); e++) {
                int process = events.get(e).process();
                if (in[e] && lacksOne(e, in)) {
                    cut[process] = Math.min(cut[process], events.get(e).place() - 1);
                }
            }
        }
        return count(3);
    }

    int count(int what) {
        return switch (what) {
            case 0 -> events.size();
            case 1 -> pairsApart();
            case 2 -> greatestRank();
            case 3 -> cut[0] + cut[1] + cut[2] + cut[3] + cut[4] + cut[5];
            default -> throw new IllegalArgumentException();
        };
    }

    private static void needProcess(int process) {
        if (process < 0 || process > 5) {
            throw new IllegalArgumentException();
        }
    }

    private void needEvent(int e) {
        if (e < 0 || e >= events.size()) {
            throw new IndexOutOfBoundsException();
        }
    }

    private int add(int process, boolean sends, int sender) {
        needProcess(process);
        if (events.size() == 200) {
            throw new IndexOutOfBoundsException();
        }
        events.add(new Event(process, sends, sender, of(process).size() + 1));
        return events.size() - 1;
    }

    private List<Integer> of(int process) {
        List<Integer> found = new ArrayList<>();
        for (int e = 0; e < events.size(); e++) {
            if (events.get(e).process() == process) {
                found.add(e);
            }
        }
        return found;
    }

    private boolean isStep(int e, int f) {
        Event from = events.get(e);
        Event to = events.get(f);
        boolean isNext = from.process() == to.process() && from.place() + 1 == to.place();
        return isNext || to.sender() == e;
    }

    private boolean[] reached(int e) {
        boolean[] seen = new boolean[events.size()];
        List<Integer> open = new ArrayList<>();
        open.add(e);
        while (!open.isEmpty()) {
            int at = open.remove(open.size() - 1);
            for (int f = 0; f < events.size(); f++) {
                if (!seen[f] && isStep(at, f)) {
                    seen[f] = true;
                    open.add(f);
                }
            }
        }
        return seen;
    }

    private boolean[][] allReached() {
        boolean[][] all = new boolean[events.size()][];
        for (int e = 0; e < events.size(); e++) {
            all[e] = reached(e);
        }
        return all;
    }

    private int[] ranks() {
        boolean[][] all = allReached();
        int[] ranks = new int[events.size()];
        for (int f = 0; f < ranks.length; f++) {
            for (int e = 0; e < ranks.length; e++) {
                if (all[e][f]) {
                    ranks[f] = Math.max(ranks[f], ranks[e]);
                }
            }
            ranks[f]++;
        }
        return ranks;
    }

    private int greatestRank() {
        int greatest = 0;
        for (int rank : ranks()) {
            greatest = Math.max(greatest, rank);
        }
        return greatest;
    }

    private int pairsApart() {
        boolean[][] all = allReached();
        int pairs = 0;
        for (int e = 0; e < all.length; e++) {
            for (int f = e + 1; f < all.length; f++) {
                if (!all[e][f] && !all[f][e]) {
                    pairs++;
                }
            }
        }
        return pairs;
    }

    private boolean[] inCut() {
        boolean[] in = new boolean[events.size()];
        for (int e = 0; e < in.length; e++) {
            in[e] = events.get(e).place() <= cut[events.get(e).process()];
        }
        return in;
    }

    private boolean isWhole(boolean[] in) {
        for (int e = 0; e < in.length; e++) {
            if (in[e] && lacksOne(e, in)) {
                return false;
            }
        }
        return true;
    }

    /** One step back is enough to see here: what lacks further back shows at the events between. */
    private boolean lacksOne(int f, boolean[] in) {
        for (int e = 0; e < in.length; e++) {
            if (!in[e] && isStep(e, f)) {
                return true;
            }
        }
        return false;
    }

    private boolean isBeforeOneOf(int e, boolean[] in) {
        for (int f = 0; f < in.length; f++) {
            if (in[f] && isStep(e, f)) {
                return true;
            }
        }
        return false;
    }
}
