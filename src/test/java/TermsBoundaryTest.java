/** A test for each sentence of "What it is" and "Terms" that names a boundary. */
public final class TermsBoundaryTest {
    private static final String CALLS =
            "What it is: An object is used for at most 512 calls after it has been made";

    public static void main(String[] args) {
        Checks.test(CALLS, TermsBoundaryTest::each512thCallIsAnswered);
        Checks.test(CALLS, TermsBoundaryTest::all512CallsAreAnswered);
        Checks.test(CALLS, TermsBoundaryTest::refusedCallsAreCallsToo);
        Checks.test("Terms: PROCESSES 0..5", TermsBoundaryTest::processesAre0To5);
        Checks.test("Terms: EVENTS are numbered as they are made, up to 200",
                TermsBoundaryTest::eventsAreNumberedUpTo200);
        Checks.test("Terms: one that SENDS (to all who want it)", TermsBoundaryTest::allWhoWantItReceive);
        Checks.test("Terms: e is BEFORE f if one comes from e to f by steps",
                TermsBoundaryTest::stepsGoFromNoneTo199);
        Checks.test("Terms: Two are APART if they are not the same and neither is BEFORE the other",
                TermsBoundaryTest::theSameAreNotApart);
        Checks.test("Terms: (1 if there are none)", TermsBoundaryTest::rankIs1IfNoneAreBefore);
        Checks.test("Terms: 1 more than the greatest RANK of those BEFORE it",
                TermsBoundaryTest::rankIsUpTo200);
        Checks.test("Terms: how many EVENTS of that are BEFORE it, or are it",
                TermsBoundaryTest::clockIsFrom0To200);
        Checks.test("Terms: (as many as it has at most)", TermsBoundaryTest::cutHasAtMostAllOfAProcess);
        Checks.test("Terms: A CUT has the first so many EVENTS of each PROCESS",
                TermsBoundaryTest::cutHasTheFirstSoMany);
        Checks.test("Terms: It is WHOLE if all that are BEFORE one in it are in it",
                TermsBoundaryTest::wholeFromNoneToAll);
        Checks.finish();
    }

    /** Six events and a cut that is not whole; then an event that comes and goes, again and again. */
    private static CausalDesk after511() {
        CausalDesk desk = Desks.relay();
        desk.cut(2, 1);
        for (int i = 0; i < 252; i++) {
            desk.own(3);
            desk.undo(1);
        }
        return desk;
    }

    private static void each512thCallIsAnswered() {
        Checks.same("own(3)", after511().own(3), 6);
        Checks.same("send(3)", after511().send(3), 6);
        Checks.same("receive(3, 0)", after511().receive(3, 0), 6);
        Checks.taken("undo(6)", () -> after511().undo(6));
        Checks.yes("before(0, 4)", after511().before(0, 4));
        Checks.yes("apart(5, 4)", after511().apart(5, 4));
        Checks.same("rank(4)", after511().rank(4), 4);
        Checks.same("clock(4, 1)", after511().clock(4, 1), 3);
        Checks.taken("cut(1, 3)", () -> after511().cut(1, 3));
        Checks.no("whole()", after511().whole());
        Checks.same("close()", after511().close(), 5);
        Checks.same("open()", after511().open(), 0);
        Checks.same("count(0)", after511().count(0), 6);
        Checks.same("count(1)", after511().count(1), 5);
        Checks.same("count(2)", after511().count(2), 4);
        Checks.same("count(3)", after511().count(3), 1);
        Checks.refused("own(6)", Checks.ARGUMENT, () -> after511().own(6));
        Checks.refused("undo(7)", Checks.ARGUMENT, () -> after511().undo(7));
        Checks.refused("rank(6)", Checks.INDEX, () -> after511().rank(6));
    }

    /** 200 events made, all of them undone, 200 made once more, and 111 questions. */
    private static void all512CallsAreAnswered() {
        CausalDesk desk = new CausalDesk();
        for (int e = 0; e < Desks.FULL; e++) {
            Checks.same("send(5)", desk.send(5), e);
        }
        desk.undo(Desks.FULL);
        for (int e = 0; e < Desks.FULL; e++) {
            Checks.same("own(0)", desk.own(0), e);
        }
        for (int e = 89; e < Desks.FULL; e++) {
            Checks.same("rank(" + e + ")", desk.rank(e), e + 1);
        }
    }

    private static void refusedCallsAreCallsToo() {
        CausalDesk desk = new CausalDesk();
        for (int i = 0; i < 511; i++) {
            Checks.refused("receive(0, 0)", Checks.ARGUMENT, () -> desk.receive(0, 0));
        }
        Checks.same("own(0)", desk.own(0), 0);
    }

    private static void processesAre0To5() {
        for (int process = 0; process <= 5; process++) {
            CausalDesk desk = new CausalDesk();
            desk.send(process == 0 ? 5 : 0);
            Checks.same("own(" + process + ")", desk.own(process), 1);
            Checks.same("send(" + process + ")", desk.send(process), 2);
            Checks.same("receive(" + process + ", 0)", desk.receive(process, 0), 3);
            Checks.same("clock(3, " + process + ")", desk.clock(3, process), 3);
            desk.cut(process, 3);
            Checks.same("count(3)", desk.count(3), 3);
        }
        CausalDesk desk = new CausalDesk();
        Checks.refused("own(-1)", Checks.ARGUMENT, () -> desk.own(-1));
        Checks.refused("own(6)", Checks.ARGUMENT, () -> desk.own(6));
        Checks.same("count(0)", desk.count(0), 0);
    }

    private static void eventsAreNumberedUpTo200() {
        CausalDesk desk = new CausalDesk();
        for (int e = 0; e < Desks.FULL; e++) {
            int got = e % 3 == 0 ? desk.send(0) : e % 3 == 1 ? desk.own(3) : desk.receive(5, e - 2);
            Checks.same("the number of event " + e, got, e);
        }
        Checks.same("count(0)", desk.count(0), Desks.FULL);
        Checks.refused("a 201st, own(3)", Checks.INDEX, () -> desk.own(3));
        Checks.refused("a 201st, send(0)", Checks.INDEX, () -> desk.send(0));
        Checks.refused("a 201st, receive(5, 0)", Checks.INDEX, () -> desk.receive(5, 0));
        Checks.same("rank(199)", desk.rank(199), 67);
        Checks.refused("rank(200)", Checks.INDEX, () -> desk.rank(200));
    }

    private static void allWhoWantItReceive() {
        CausalDesk desk = new CausalDesk();
        desk.send(2);
        Checks.same("none wants it, count(0)", desk.count(0), 1);
        int[] receivers = {0, 1, 3, 4, 5, 0, 1, 3, 4, 5};
        for (int i = 0; i < receivers.length; i++) {
            int process = receivers[i];
            Checks.same("receive(" + process + ", 0)", desk.receive(process, 0), i + 1);
            Checks.yes("before(0, " + (i + 1) + ")", desk.before(0, i + 1));
            Checks.same("clock for 2", desk.clock(i + 1, 2), 1);
        }
        CausalDesk many = new CausalDesk();
        many.send(2);
        for (int e = 1; e < Desks.FULL; e++) {
            Checks.same("199 times, receive(3, 0)", many.receive(3, 0), e);
        }
        Checks.same("clock(199, 2)", many.clock(199, 2), 1);
    }

    private static void stepsGoFromNoneTo199() {
        CausalDesk chain = Desks.chain();
        Checks.no("no step, before(0, 0)", chain.before(0, 0));
        Checks.no("no step, before(199, 199)", chain.before(199, 199));
        Checks.yes("one step, before(0, 1)", chain.before(0, 1));
        Checks.yes("one step, before(198, 199)", chain.before(198, 199));
        Checks.yes("199 steps, before(0, 199)", chain.before(0, 199));
        Checks.no("steps back, before(199, 0)", chain.before(199, 0));
        Checks.no("a step back, before(1, 0)", chain.before(1, 0));
        CausalDesk line = Desks.line(3);
        Checks.yes("199 steps in one process", line.before(0, 199));
        Checks.no("199 steps back in one process", line.before(199, 0));
    }

    private static void theSameAreNotApart() {
        CausalDesk full = Desks.full();
        for (int e : new int[] {0, 1, 198, 199}) {
            Checks.no("apart(" + e + ", " + e + ")", full.apart(e, e));
        }
        Checks.yes("first and last, apart(0, 199)", full.apart(0, 199));
        Checks.yes("apart(199, 0)", full.apart(199, 0));
        Checks.no("one process, apart(1, 199)", full.apart(1, 199));
        Checks.no("one process, apart(199, 1)", full.apart(199, 1));
        CausalDesk chain = Desks.chain();
        Checks.no("by 199 steps, apart(0, 199)", chain.apart(0, 199));
        Checks.no("by 199 steps, apart(199, 0)", chain.apart(199, 0));
    }

    private static void rankIs1IfNoneAreBefore() {
        CausalDesk desk = new CausalDesk();
        for (int process = 0; process < Desks.PROCESSES; process++) {
            int first = process % 2 == 0 ? desk.own(process) : desk.send(process);
            Checks.same("rank of the first of " + process, desk.rank(first), 1);
        }
        Checks.same("rank of the second of 0", desk.rank(desk.own(0)), 2);
        CausalDesk received = new CausalDesk();
        received.send(0);
        Checks.same("a receive has one before it", received.rank(received.receive(1, 0)), 2);
        received.undo(1);
        Checks.same("none before it when that is undone", received.rank(received.own(1)), 1);
        CausalDesk again = Desks.line(0);
        again.undo(Desks.FULL);
        Checks.same("none before it when all are undone", again.rank(again.own(0)), 1);
    }

    private static void rankIsUpTo200() {
        CausalDesk chain = Desks.chain();
        for (int e = 0; e < Desks.FULL; e++) {
            Checks.same("in a chain, rank(" + e + ")", chain.rank(e), e + 1);
        }
        CausalDesk line = Desks.line(5);
        Checks.same("in one process, rank(199)", line.rank(199), 200);
        CausalDesk low = new CausalDesk();
        low.send(0);
        low.own(1);
        low.own(1);
        Checks.same("the process outranks what is received", low.rank(low.receive(1, 0)), 3);
        low.send(1);
        Checks.same("what is received outranks the process", low.rank(low.receive(0, 4)), 5);
    }

    private static void clockIsFrom0To200() {
        CausalDesk line = Desks.line(5);
        Checks.same("it alone, clock(0, 5)", line.clock(0, 5), 1);
        Checks.same("199 before it and itself, clock(199, 5)", line.clock(199, 5), 200);
        Checks.same("none of 0, clock(199, 0)", line.clock(199, 0), 0);
        CausalDesk chain = Desks.chain();
        int[] lengths = Desks.chainLengths();
        for (int process = 0; process < Desks.PROCESSES; process++) {
            Checks.same("all of them, clock(199, " + process + ")", chain.clock(199, process), lengths[process]);
            Checks.same("clock(0, " + process + ")", chain.clock(0, process), process == 0 ? 1 : 0);
        }
    }

    private static void cutHasAtMostAllOfAProcess() {
        CausalDesk line = Desks.line(4);
        for (int n : new int[] {0, 1, 199, 200}) {
            line.cut(4, n);
            Checks.same("count(3) after cut(4, " + n + ")", line.count(3), n);
        }
        Checks.refused("cut(4, 201)", Checks.ARGUMENT, () -> line.cut(4, 201));
        Checks.same("count(3) after that", line.count(3), 200);
        Checks.refused("none of its neighbour, cut(5, 1)", Checks.ARGUMENT, () -> line.cut(5, 1));
        CausalDesk full = Desks.full();
        int[] lengths = {34, 34, 33, 33, 33, 33};
        for (int process = 0; process < Desks.PROCESSES; process++) {
            int one = process;
            Desks.cutAll(full, lengths);
            Checks.refused("one more of " + one, Checks.ARGUMENT, () -> full.cut(one, lengths[one] + 1));
            Checks.same("count(3) with all of each", full.count(3), Desks.FULL);
        }
    }

    /** The first of process 1 needs nothing; its second and last receives from process 0. */
    private static void cutHasTheFirstSoMany() {
        CausalDesk desk = new CausalDesk();
        desk.send(0);
        desk.own(1);
        desk.receive(1, 0);
        desk.cut(1, 1);
        Checks.yes("the first alone, whole()", desk.whole());
        Checks.same("the first alone, close()", desk.close(), 1);
        Checks.same("the first alone, open()", desk.open(), 1);
        desk.cut(1, 2);
        Checks.no("both, whole()", desk.whole());
        Checks.same("the first is left by open()", desk.open(), 1);
        Desks.cutIs("the first is left", desk, 0, 1);
    }

    private static void wholeFromNoneToAll() {
        CausalDesk chain = Desks.chain();
        int[] lengths = Desks.chainLengths();
        Checks.yes("none of 200", chain.whole());
        Desks.cutAll(chain, lengths);
        Checks.yes("all 200", chain.whole());
        chain.cut(4, lengths[4] - 1);
        Checks.yes("all but the last", chain.whole());
        chain.cut(4, lengths[4]);
        chain.cut(3, lengths[3] - 1);
        Checks.no("all but the last but one", chain.whole());
        chain.cut(3, lengths[3]);
        chain.cut(0, 0);
        Checks.no("all but those of process 0", chain.whole());
        Desks.cutAll(chain, 1, 0, 0, 0, 0, 0);
        Checks.yes("the first alone", chain.whole());
        Desks.cutAll(chain, 0, 1);
        Checks.no("the second alone", chain.whole());
    }
}
