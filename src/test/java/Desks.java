/**
 * Desks and questions that several tests share. The document promises 512 calls on one object, so
 * no test may use a desk for more: what each helper takes of them is said here.
 */
final class Desks {
    static final int FULL = 200;
    static final int PROCESSES = 6;

    private Desks() {
    }

    /**
     * Process 0: 0 sends, 5 own. Process 1: 1 own, 2 receives 0, 3 sends. Process 2: 4 receives 3.
     * Takes 6 calls.
     */
    static CausalDesk relay() {
        CausalDesk desk = new CausalDesk();
        desk.send(0);
        desk.own(1);
        desk.receive(1, 0);
        desk.send(1);
        desk.receive(2, 3);
        desk.own(0);
        return desk;
    }

    /** 200 events, of the processes 0..5 in turn; those of process 0 send. Takes 200 calls. */
    static CausalDesk full() {
        CausalDesk desk = new CausalDesk();
        for (int e = 0; e < FULL; e++) {
            if (e % PROCESSES == 0) {
                desk.send(0);
            } else {
                desk.own(e % PROCESSES);
            }
        }
        return desk;
    }

    /**
     * 200 events, each one step before the next: 0 sends to 1, which sends to 2, and so on round
     * the processes. Takes 200 calls.
     */
    static CausalDesk chain() {
        CausalDesk desk = new CausalDesk();
        for (int e = 0; e < FULL; e++) {
            int process = (e + 1) / 2 % PROCESSES;
            if (e % 2 == 0) {
                desk.send(process);
            } else {
                desk.receive(process, e - 1);
            }
        }
        return desk;
    }

    /** How many events of each process the chain has. */
    static int[] chainLengths() {
        return new int[] {33, 34, 34, 34, 33, 32};
    }

    /** 200 own events of one process. Takes 200 calls. */
    static CausalDesk line(int process) {
        CausalDesk desk = new CausalDesk();
        for (int e = 0; e < FULL; e++) {
            desk.own(process);
        }
        return desk;
    }

    /**
     * Numbers below 0 and above most: the next ones, the far ones, and those that would be small
     * again if high bits were lost, at once or when multiplied by the number of processes.
     */
    static int[] outside(int most) {
        return new int[] {
            -1, -2, -1 - most, -256, -65536, -1431655765, Integer.MIN_VALUE,
            most + 1, most + 2, 201, 256, 65536, 715827883, 1 << 30, Integer.MAX_VALUE};
    }

    static void cutAll(CausalDesk desk, int... sizes) {
        for (int process = 0; process < sizes.length; process++) {
            desk.cut(process, sizes[process]);
        }
    }

    /** Says how many events of a process the cut has, by lowering it to none and back: 4 calls. */
    static int cutOf(CausalDesk desk, int process) {
        int all = desk.count(3);
        desk.cut(process, 0);
        int size = all - desk.count(3);
        desk.cut(process, size);
        return size;
    }

    /** Processes for which nothing is due have none in the cut. Takes 24 calls. */
    static void cutIs(String what, CausalDesk desk, int... due) {
        for (int process = 0; process < PROCESSES; process++) {
            int want = process < due.length ? due[process] : 0;
            Checks.same(what + ": cut of process " + process, cutOf(desk, process), want);
        }
    }

    /**
     * All that a desk with few events answers, or a full one of its latest six events; last of all
     * whether they send, as that is found out by receiving. Takes at most 91 calls.
     */
    static String told(CausalDesk desk) {
        StringBuilder text = new StringBuilder();
        for (int what = 0; what < 4; what++) {
            text.append("count ").append(desk.count(what)).append(' ');
        }
        text.append("whole ").append(desk.whole()).append(" cut");
        for (int process = 0; process < PROCESSES; process++) {
            text.append(' ').append(cutOf(desk, process));
        }
        int made = desk.count(0);
        for (int e = Math.max(0, made - 6); e < made; e++) {
            text.append(", ").append(e).append(" rank ").append(desk.rank(e)).append(" clock");
            for (int process = 0; process < PROCESSES; process++) {
                text.append(' ').append(desk.clock(e, process));
            }
        }
        return text.append(toldOfSending(desk, made)).toString();
    }

    private static String toldOfSending(CausalDesk desk, int made) {
        StringBuilder text = new StringBuilder();
        int left = Math.min(made, FULL - 1);
        desk.undo(made - left);
        for (int e = Math.max(0, left - 6); e < left; e++) {
            text.append(isReceived(desk, 4, e) || isReceived(desk, 5, e) ? " sends" : " silent");
        }
        return text.toString();
    }

    /** Asked for two processes, as one of them may be the event's own. */
    private static boolean isReceived(CausalDesk desk, int process, int e) {
        boolean received = Checks.thrownBy(() -> desk.receive(process, e)).equals("nothing");
        if (received) {
            desk.undo(1);
        }
        return received;
    }
}
