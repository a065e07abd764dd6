/** One method for each promise: ordinary inputs, the edges that the document names, wrong inputs. */
public final class PromisesTest {
    private static final int FULL = 200;
    private static final int[] NO_PROCESS = {-1, 6, Integer.MIN_VALUE, Integer.MAX_VALUE};

    public static void main(String[] args) {
        promise1NewObject();
        promise1WhatThrowsChangesNothing();
        promise2Own();
        promise3Send();
        promise4Receive();
        promise4ReceiveLooksAtArgumentsFirst();
        promise5Undo();
        promise5UndoLeavesNothingBehind();
        promise6Before();
        promise7Apart();
        promise8Rank();
        promise9Clock();
        promise10Cut();
        promise10CutAfterUndo();
        promise11Whole();
        promise12Close();
        promise13Open();
        promises11To13WithAll200();
        promises11To13ForgetWhatIsUndone();
        promise14Count();
        Checks.finish();
    }

    /**
     * Process 0: 0 sends, 5 own. Process 1: 1 own, 2 receives 0, 3 sends. Process 2: 4 receives 3.
     */
    private static CausalDesk relay() {
        CausalDesk desk = new CausalDesk();
        desk.send(0);
        desk.own(1);
        desk.receive(1, 0);
        desk.send(1);
        desk.receive(2, 3);
        desk.own(0);
        return desk;
    }

    /** 200 events, of the processes 0..5 in turn; those of process 0 send. */
    private static CausalDesk full() {
        CausalDesk desk = new CausalDesk();
        for (int e = 0; e < FULL; e++) {
            int got = e % 6 == 0 ? desk.send(0) : desk.own(e % 6);
            Checks.same("number of event " + e, got, e);
        }
        return desk;
    }

    private static void cutAll(CausalDesk desk, int... sizes) {
        for (int process = 0; process < sizes.length; process++) {
            desk.cut(process, sizes[process]);
        }
    }

    /** Says how many events of a process the cut has, by lowering it to nothing and back. */
    private static int cutOf(CausalDesk desk, int process) {
        int all = desk.count(3);
        desk.cut(process, 0);
        int size = all - desk.count(3);
        desk.cut(process, size);
        return size;
    }

    private static void cutIs(String what, CausalDesk desk, int... due) {
        for (int process = 0; process < 6; process++) {
            int want = process < due.length ? due[process] : 0;
            Checks.same(what + ": cut of process " + process, cutOf(desk, process), want);
        }
    }

    private static void promise1NewObject() {
        CausalDesk desk = new CausalDesk();
        Checks.same("1: events", desk.count(0), 0);
        Checks.same("1: pairs apart", desk.count(1), 0);
        Checks.same("1: greatest rank", desk.count(2), 0);
        Checks.same("1: events in the cut", desk.count(3), 0);
        Checks.yes("1: whole()", desk.whole());
        Checks.same("1: close()", desk.close(), 0);
        Checks.same("1: open()", desk.open(), 0);
        Checks.refused("1: rank(0)", Checks.INDEX, () -> desk.rank(0));
        CausalDesk other = relay();
        Checks.same("1: another object has its own events", desk.count(0), 0);
        Checks.same("1: and that one has its own", other.count(0), 6);
    }

    private static void promise1WhatThrowsChangesNothing() {
        CausalDesk desk = relay();
        cutAll(desk, 1, 2, 1);
        Checks.refused("1: own(6)", Checks.ARGUMENT, () -> desk.own(6));
        Checks.refused("1: send(-1)", Checks.ARGUMENT, () -> desk.send(-1));
        Checks.refused("1: receive(2, 1)", Checks.ARGUMENT, () -> desk.receive(2, 1));
        Checks.refused("1: undo(7)", Checks.ARGUMENT, () -> desk.undo(7));
        Checks.refused("1: cut(1, 4)", Checks.ARGUMENT, () -> desk.cut(1, 4));
        Checks.refused("1: cut(1, -1)", Checks.ARGUMENT, () -> desk.cut(1, -1));
        Checks.refused("1: count(4)", Checks.ARGUMENT, () -> desk.count(4));
        Checks.refused("1: rank(6)", Checks.INDEX, () -> desk.rank(6));
        Checks.same("1: events after refusals", desk.count(0), 6);
        Checks.same("1: greatest rank after refusals", desk.count(2), 4);
        Checks.same("1: clock after refusals", desk.clock(4, 1), 3);
        cutIs("1: after refusals", desk, 1, 2, 1);

        CausalDesk full = full();
        Checks.refused("1: own(1) when full", Checks.INDEX, () -> full.own(1));
        Checks.refused("1: receive(1, 0) when full", Checks.INDEX, () -> full.receive(1, 0));
        Checks.same("1: still 200", full.count(0), FULL);
        Checks.same("1: last clock", full.clock(199, 1), 34);
        Checks.refused("1: no more of process 1", Checks.ARGUMENT, () -> full.cut(1, 35));
    }

    private static void promise2Own() {
        CausalDesk desk = new CausalDesk();
        for (int process = 0; process < 6; process++) {
            Checks.same("2: own(" + process + ")", desk.own(process), process);
            Checks.same("2: its clock", desk.clock(process, process), 1);
        }
        Checks.same("2: the next of process 3", desk.own(3), 6);
        Checks.yes("2: the first of 3 is before the next", desk.before(3, 6));
        for (int process : NO_PROCESS) {
            Checks.refused("2: own(" + process + ")", Checks.ARGUMENT, () -> desk.own(process));
        }
        for (int e = 0; e < 7; e++) {
            int sender = e;
            int receiver = e == 0 ? 1 : 0;
            Checks.refused("2: own does not send", Checks.ARGUMENT, () -> desk.receive(receiver, sender));
        }
        CausalDesk full = full();
        Checks.refused("2: own(0) when full", Checks.INDEX, () -> full.own(0));
        Checks.refused("2: own(6) when full", Checks.ARGUMENT, () -> full.own(6));
        Checks.refused("2: own(-1) when full", Checks.ARGUMENT, () -> full.own(-1));
        full.undo(1);
        Checks.same("2: the 200th once more", full.own(5), 199);
    }

    private static void promise3Send() {
        CausalDesk desk = new CausalDesk();
        for (int process = 0; process < 6; process++) {
            Checks.same("3: send(" + process + ")", desk.send(process), process);
        }
        for (int process = 0; process < 6; process++) {
            int receiver = (process + 1) % 6;
            Checks.same("3: what was sent is received", desk.receive(receiver, process), 6 + process);
            Checks.yes("3: and is before that", desk.before(process, 6 + process));
        }
        for (int process : NO_PROCESS) {
            Checks.refused("3: send(" + process + ")", Checks.ARGUMENT, () -> desk.send(process));
        }
        Checks.same("3: the next of process 0", desk.send(0), 12);
        Checks.yes("3: sends follow one another", desk.before(0, 12));
        CausalDesk full = full();
        Checks.refused("3: send(5) when full", Checks.INDEX, () -> full.send(5));
        Checks.refused("3: send(6) when full", Checks.ARGUMENT, () -> full.send(6));
        full.undo(1);
        Checks.same("3: the 200th once more", full.send(5), 199);
    }

    private static void promise4Receive() {
        CausalDesk desk = relay();
        Checks.same("4: one more receives the same", desk.receive(3, 0), 6);
        Checks.same("4: the same process receives it again", desk.receive(3, 0), 7);
        Checks.yes("4: before the first", desk.before(0, 6));
        Checks.yes("4: one after the other", desk.before(6, 7));
        Checks.no("4: not before who did not receive", desk.before(5, 6));
        Checks.refused("4: 1 is own", Checks.ARGUMENT, () -> desk.receive(0, 1));
        Checks.refused("4: 2 receives, does not send", Checks.ARGUMENT, () -> desk.receive(3, 2));
        Checks.refused("4: 0 is of process 0 too", Checks.ARGUMENT, () -> desk.receive(0, 0));
        Checks.refused("4: 3 is of process 1 too", Checks.ARGUMENT, () -> desk.receive(1, 3));
        Checks.refused("4: no event 8", Checks.ARGUMENT, () -> desk.receive(4, 8));
        Checks.refused("4: no event -1", Checks.ARGUMENT, () -> desk.receive(4, -1));
        Checks.refused("4: no event 200", Checks.ARGUMENT, () -> desk.receive(4, 200));
        Checks.refused("4: least int", Checks.ARGUMENT, () -> desk.receive(4, Integer.MIN_VALUE));
        Checks.refused("4: greatest int", Checks.ARGUMENT, () -> desk.receive(4, Integer.MAX_VALUE));
        for (int process : NO_PROCESS) {
            Checks.refused("4: receive(" + process + ", 0)", Checks.ARGUMENT, () -> desk.receive(process, 0));
        }
        Checks.same("4: an early one is received late", desk.receive(2, 0), 8);
        Checks.same("4: clock for 0 after that", desk.clock(8, 0), 1);
        Checks.same("4: clock for 1 after that", desk.clock(8, 1), 3);
        desk.undo(9);
        Checks.refused("4: 0 is gone", Checks.ARGUMENT, () -> desk.receive(3, 0));
    }

    private static void promise4ReceiveLooksAtArgumentsFirst() {
        CausalDesk full = full();
        Checks.refused("4: full", Checks.INDEX, () -> full.receive(1, 0));
        Checks.refused("4: full, the last that sends", Checks.INDEX, () -> full.receive(5, 198));
        Checks.refused("4: full, no process 6", Checks.ARGUMENT, () -> full.receive(6, 0));
        Checks.refused("4: full, 1 does not send", Checks.ARGUMENT, () -> full.receive(0, 1));
        Checks.refused("4: full, same process", Checks.ARGUMENT, () -> full.receive(0, 6));
        Checks.refused("4: full, no event 200", Checks.ARGUMENT, () -> full.receive(1, 200));
        Checks.refused("4: full, no event -1", Checks.ARGUMENT, () -> full.receive(1, -1));
        full.undo(1);
        Checks.same("4: the 200th receives", full.receive(5, 198), 199);
    }

    private static void promise5Undo() {
        CausalDesk desk = relay();
        desk.undo(0);
        Checks.same("5: undo(0) leaves all", desk.count(0), 6);
        Checks.refused("5: undo(-1)", Checks.ARGUMENT, () -> desk.undo(-1));
        Checks.refused("5: undo(7) of 6", Checks.ARGUMENT, () -> desk.undo(7));
        Checks.refused("5: least int", Checks.ARGUMENT, () -> desk.undo(Integer.MIN_VALUE));
        Checks.refused("5: greatest int", Checks.ARGUMENT, () -> desk.undo(Integer.MAX_VALUE));
        desk.undo(2);
        Checks.same("5: undo(2) leaves 4", desk.count(0), 4);
        Checks.refused("5: 4 is gone", Checks.INDEX, () -> desk.rank(4));
        Checks.same("5: 3 is left", desk.rank(3), 3);
        Checks.refused("5: process 0 has 1 only", Checks.ARGUMENT, () -> desk.cut(0, 2));
        Checks.refused("5: process 2 has none", Checks.ARGUMENT, () -> desk.cut(2, 1));
        Checks.same("5: numbers go on from there", desk.own(2), 4);
        desk.undo(5);
        Checks.same("5: undo of all", desk.count(0), 0);
        Checks.refused("5: undo(1) of none", Checks.ARGUMENT, () -> desk.undo(1));
        desk.undo(0);
        Checks.same("5: the first number again", desk.own(4), 0);
        CausalDesk full = full();
        full.undo(200);
        Checks.same("5: undo(200)", full.count(0), 0);
    }

    private static void promise5UndoLeavesNothingBehind() {
        CausalDesk desk = relay();
        desk.undo(3);
        Checks.same("5: own where a send was", desk.own(3), 3);
        Checks.refused("5: it does not send", Checks.ARGUMENT, () -> desk.receive(0, 3));
        Checks.same("5: its rank", desk.rank(3), 1);
        for (int process = 0; process < 6; process++) {
            Checks.same("5: its clock for " + process, desk.clock(3, process), process == 3 ? 1 : 0);
        }
        Checks.yes("5: apart from what it followed", desk.apart(0, 3));
        Checks.same("5: send where a receive was", desk.send(5), 4);
        Checks.same("5: and that is received", desk.receive(0, 4), 5);
        Checks.same("5: which does not know of process 1", desk.clock(5, 1), 0);
        Checks.same("5: the greatest rank", desk.count(2), 2);
    }

    private static void promise6Before() {
        CausalDesk desk = relay();
        Checks.yes("6: by a message", desk.before(0, 2));
        Checks.yes("6: in one process", desk.before(1, 2));
        Checks.yes("6: in one process, two steps", desk.before(1, 3));
        Checks.yes("6: by two messages", desk.before(0, 4));
        Checks.yes("6: in process 0", desk.before(0, 5));
        Checks.no("6: not back", desk.before(4, 0));
        Checks.no("6: not itself", desk.before(2, 2));
        Checks.no("6: made earlier is not before", desk.before(0, 1));
        Checks.no("6: after the send is not before the receive", desk.before(5, 4));
        Checks.no("6: made later, apart", desk.before(4, 5));
        for (int e : new int[] {-1, 6, 200, Integer.MIN_VALUE, Integer.MAX_VALUE}) {
            Checks.refused("6: before(" + e + ", 0)", Checks.INDEX, () -> desk.before(e, 0));
            Checks.refused("6: before(0, " + e + ")", Checks.INDEX, () -> desk.before(0, e));
            Checks.refused("6: before(" + e + ", " + e + ")", Checks.INDEX, () -> desk.before(e, e));
        }
        CausalDesk full = full();
        Checks.yes("6: 0 and 198", full.before(0, 198));
        Checks.no("6: 0 and 199", full.before(0, 199));
        Checks.refused("6: 200 when full", Checks.INDEX, () -> full.before(0, 200));
    }

    private static void promise7Apart() {
        CausalDesk desk = relay();
        Checks.yes("7: 1 and 0", desk.apart(1, 0));
        Checks.yes("7: 0 and 1", desk.apart(0, 1));
        Checks.yes("7: 5 and 4", desk.apart(5, 4));
        Checks.yes("7: 1 and 5", desk.apart(1, 5));
        Checks.no("7: 0 is before 4", desk.apart(0, 4));
        Checks.no("7: the other way round", desk.apart(4, 0));
        Checks.no("7: one process", desk.apart(0, 5));
        Checks.no("7: the same", desk.apart(3, 3));
        for (int e : new int[] {-1, 6, 200, Integer.MIN_VALUE, Integer.MAX_VALUE}) {
            Checks.refused("7: apart(" + e + ", 0)", Checks.INDEX, () -> desk.apart(e, 0));
            Checks.refused("7: apart(0, " + e + ")", Checks.INDEX, () -> desk.apart(0, e));
            Checks.refused("7: apart(" + e + ", " + e + ")", Checks.INDEX, () -> desk.apart(e, e));
        }
    }

    private static void promise8Rank() {
        CausalDesk desk = relay();
        int[] due = {1, 1, 2, 3, 4, 2};
        for (int e = 0; e < due.length; e++) {
            Checks.same("8: rank(" + e + ")", desk.rank(e), due[e]);
        }
        desk.receive(0, 3);
        Checks.same("8: the message outranks the process", desk.rank(6), 4);
        desk.receive(2, 0);
        Checks.same("8: the process outranks the message", desk.rank(7), 5);
        for (int e : new int[] {-1, 8, 200, Integer.MIN_VALUE, Integer.MAX_VALUE}) {
            Checks.refused("8: rank(" + e + ")", Checks.INDEX, () -> desk.rank(e));
        }
        CausalDesk line = new CausalDesk();
        for (int e = 0; e < FULL; e++) {
            Checks.same("8: rank in a line", line.rank(line.own(4)), e + 1);
        }
    }

    private static void promise9Clock() {
        CausalDesk desk = relay();
        int[][] due = {{1, 0, 0}, {0, 1, 0}, {1, 2, 0}, {1, 3, 0}, {1, 3, 1}, {2, 0, 0}};
        for (int e = 0; e < due.length; e++) {
            for (int process = 0; process < 6; process++) {
                int want = process < 3 ? due[e][process] : 0;
                Checks.same("9: clock(" + e + ", " + process + ")", desk.clock(e, process), want);
            }
        }
        for (int process : NO_PROCESS) {
            Checks.refused("9: clock(0, " + process + ")", Checks.ARGUMENT, () -> desk.clock(0, process));
            Checks.refused("9: the process first", Checks.ARGUMENT, () -> desk.clock(-1, process));
            Checks.refused("9: the process first", Checks.ARGUMENT, () -> desk.clock(6, process));
        }
        for (int e : new int[] {-1, 6, 200, Integer.MIN_VALUE, Integer.MAX_VALUE}) {
            Checks.refused("9: clock(" + e + ", 0)", Checks.INDEX, () -> desk.clock(e, 0));
            Checks.refused("9: clock(" + e + ", 5)", Checks.INDEX, () -> desk.clock(e, 5));
        }
    }

    private static void promise10Cut() {
        CausalDesk desk = relay();
        cutIs("10: at first", desk);
        desk.cut(1, 3);
        desk.cut(0, 1);
        cutIs("10: set", desk, 1, 3);
        desk.cut(1, 2);
        cutIs("10: lowered", desk, 1, 2);
        desk.cut(1, 0);
        cutIs("10: none", desk, 1);
        desk.own(0);
        cutIs("10: a new event is not in it", desk, 1);
        desk.cut(0, 3);
        cutIs("10: but may be", desk, 3);
        Checks.refused("10: process 0 has 3", Checks.ARGUMENT, () -> desk.cut(0, 4));
        Checks.refused("10: process 1 has 3", Checks.ARGUMENT, () -> desk.cut(1, 4));
        Checks.refused("10: process 3 has none", Checks.ARGUMENT, () -> desk.cut(3, 1));
        Checks.refused("10: below 0", Checks.ARGUMENT, () -> desk.cut(0, -1));
        Checks.refused("10: least int", Checks.ARGUMENT, () -> desk.cut(0, Integer.MIN_VALUE));
        Checks.refused("10: greatest int", Checks.ARGUMENT, () -> desk.cut(0, Integer.MAX_VALUE));
        for (int process : NO_PROCESS) {
            Checks.refused("10: cut(" + process + ", 0)", Checks.ARGUMENT, () -> desk.cut(process, 0));
        }
        desk.cut(3, 0);
        cutIs("10: as before", desk, 3);
    }

    private static void promise10CutAfterUndo() {
        CausalDesk desk = relay();
        cutAll(desk, 2, 3, 1);
        desk.undo(1);
        cutIs("10: undo of 5", desk, 1, 3, 1);
        desk.undo(2);
        cutIs("10: undo of 4 and 3", desk, 1, 2);
        desk.own(0);
        desk.own(1);
        cutIs("10: events made again are not in it", desk, 1, 2);
        desk.cut(1, 1);
        desk.undo(1);
        cutIs("10: undo of what is not in it", desk, 1, 1);
        desk.undo(4);
        cutIs("10: undo of all", desk);
    }

    private static void promise11Whole() {
        CausalDesk desk = relay();
        Checks.yes("11: empty", desk.whole());
        desk.cut(2, 1);
        Checks.no("11: a receive without its send", desk.whole());
        desk.cut(1, 3);
        Checks.no("11: without the send before that", desk.whole());
        desk.cut(0, 1);
        Checks.yes("11: all before it", desk.whole());
        desk.cut(0, 2);
        Checks.yes("11: and one apart", desk.whole());
        desk.cut(2, 0);
        Checks.yes("11: sent and not received", desk.whole());
        desk.cut(0, 0);
        Checks.no("11: received and not sent", desk.whole());
        desk.cut(1, 1);
        Checks.yes("11: one of its own", desk.whole());
        cutIs("11: whole() changes nothing", desk, 0, 1);
        cutAll(desk, 0, 3, 1);
        desk.undo(4);
        Checks.yes("11: what it lacked matters no more", desk.whole());
    }

    private static void promise12Close() {
        CausalDesk desk = relay();
        Checks.same("12: of the empty one", desk.close(), 0);
        desk.cut(2, 1);
        Checks.same("12: of the last receive", desk.close(), 5);
        cutIs("12: of the last receive", desk, 1, 3, 1);
        Checks.same("12: once more", desk.close(), 5);
        cutAll(desk, 2, 1, 0);
        Checks.same("12: of a whole one", desk.close(), 3);
        cutIs("12: of a whole one", desk, 2, 1);
        cutAll(desk, 0, 2, 0);
        Checks.same("12: of the first receive", desk.close(), 3);
        cutIs("12: of the first receive", desk, 1, 2);
        Checks.yes("12: it is whole", desk.whole());
    }

    private static void promise13Open() {
        CausalDesk desk = relay();
        Checks.same("13: of the empty one", desk.open(), 0);
        cutAll(desk, 1, 2, 1);
        Checks.same("13: without event 3", desk.open(), 3);
        cutIs("13: without event 3", desk, 1, 2);
        cutAll(desk, 0, 3, 1);
        Checks.same("13: without event 0, by two messages", desk.open(), 1);
        cutIs("13: without event 0, by two messages", desk, 0, 1);
        Checks.same("13: once more", desk.open(), 1);
        cutAll(desk, 2, 3, 1);
        Checks.same("13: of a whole one", desk.open(), 6);
        cutIs("13: of a whole one", desk, 2, 3, 1);
        cutAll(desk, 1, 1, 1);
        Checks.same("13: only what lacks goes", desk.open(), 2);
        cutIs("13: only what lacks goes", desk, 1, 1);
        Checks.yes("13: it is whole", desk.whole());
    }

    private static void promises11To13WithAll200() {
        CausalDesk full = full();
        cutAll(full, 34, 34, 33, 33, 33, 33);
        Checks.yes("11: all 200", full.whole());
        Checks.same("12: of all 200", full.close(), FULL);
        Checks.same("13: of all 200", full.open(), FULL);
        full.undo(1);
        Checks.same("4: the 200th receives the last sent", full.receive(1, 198), 199);
        cutAll(full, 33, 34, 33, 33, 33, 33);
        Checks.no("11: all but the last sent", full.whole());
        Checks.same("13: all but that and its receive", full.open(), FULL - 2);
        full.cut(1, 34);
        Checks.same("12: the last sent comes back", full.close(), FULL);
    }

    /** The undone receive had the same place in process 0 as the own event made after it. */
    private static void promises11To13ForgetWhatIsUndone() {
        CausalDesk desk = new CausalDesk();
        desk.send(1);
        desk.own(2);
        desk.receive(0, 0);
        desk.undo(2);
        desk.own(0);
        desk.cut(0, 1);
        Checks.yes("11: nothing of the undone is asked for", desk.whole());
        Checks.same("12: nor comes in", desk.close(), 1);
        Checks.same("13: nor takes away", desk.open(), 1);
        cutIs("13: after all", desk, 1);
    }

    private static void promise14Count() {
        CausalDesk desk = relay();
        cutAll(desk, 2, 1);
        Checks.same("14: events", desk.count(0), 6);
        Checks.same("14: pairs apart", desk.count(1), 5);
        Checks.same("14: greatest rank", desk.count(2), 4);
        Checks.same("14: events in the cut", desk.count(3), 3);
        desk.undo(2);
        Checks.same("14: pairs apart after undo", desk.count(1), 1);
        Checks.same("14: greatest rank after undo", desk.count(2), 3);
        Checks.same("14: events in the cut after undo", desk.count(3), 2);
        for (int what : new int[] {-1, 4, Integer.MIN_VALUE, Integer.MAX_VALUE}) {
            Checks.refused("14: count(" + what + ")", Checks.ARGUMENT, () -> desk.count(what));
        }
        desk.undo(4);
        Checks.same("14: no greatest rank", desk.count(2), 0);
        CausalDesk full = full();
        Checks.same("14: 200 events", full.count(0), FULL);
        // Four processes have 33 events and two have 34; all pairs across processes are apart.
        int inside = 4 * (33 * 32 / 2) + 2 * (34 * 33 / 2);
        Checks.same("14: pairs apart of 200", full.count(1), FULL * (FULL - 1) / 2 - inside);
        Checks.same("14: greatest rank of 200", full.count(2), 34);
        cutAll(full, 34, 34, 33, 33, 33, 33);
        Checks.same("14: all 200 in the cut", full.count(3), FULL);
    }
}
