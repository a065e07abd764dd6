import java.util.function.Supplier;

/** A test for each sentence of the promises that names a boundary: an edge, or a refused call. */
public final class PromisesBoundaryTest {
    private static final String NO_PROCESS = "IllegalArgumentException: there is no such PROCESS (here and below)";
    private static final String ARE_200 = "IndexOutOfBoundsException: there are 200 (here and in the next two)";
    private static final String NO_EVENT = "IndexOutOfBoundsException: there is no such EVENT (here and below)";

    private interface DeskCall {
        void on(CausalDesk desk);
    }

    public static void main(String[] args) {
        Checks.test("Promise 1: No EVENTS", PromisesBoundaryTest::promise1NoEvents);
        Checks.test("Promise 1: IllegalArgumentException is looked at first",
                PromisesBoundaryTest::promise1ArgumentsFirst);
        Checks.test("Promise 1: what throws changes nothing",
                PromisesBoundaryTest::promise1WhatThrowsChangesNothing);
        Checks.test("Promise 1: what throws changes nothing",
                PromisesBoundaryTest::promise1WhatThrowsChangesNothingWhenFull);
        Checks.test("Promise 2: " + NO_PROCESS, PromisesBoundaryTest::promise2NoSuchProcess);
        Checks.test("Promise 2: " + ARE_200, PromisesBoundaryTest::promise2ThereAre200);
        Checks.test("Promise 3, by promise 2: " + NO_PROCESS, PromisesBoundaryTest::promise3NoSuchProcess);
        Checks.test("Promise 3, by promise 2: " + ARE_200, PromisesBoundaryTest::promise3ThereAre200);
        Checks.test("Promise 4, by promise 2: " + NO_PROCESS, PromisesBoundaryTest::promise4NoSuchProcess);
        Checks.test("Promise 4, by promise 2: " + ARE_200, PromisesBoundaryTest::promise4ThereAre200);
        Checks.test("Promise 4: IllegalArgumentException: e does not SEND",
                PromisesBoundaryTest::promise4DoesNotSend);
        Checks.test("Promise 4: IllegalArgumentException: e does not SEND",
                PromisesBoundaryTest::promise4DoesNotSendAnyMore);
        Checks.test("Promise 4: or is of the same PROCESS, too", PromisesBoundaryTest::promise4SameProcess);
        Checks.test("Promise 5: The latest n EVENTS are gone", PromisesBoundaryTest::promise5FromNoneToAll);
        Checks.test("Promise 5: The latest n EVENTS are gone",
                PromisesBoundaryTest::promise5NothingIsLeftOfThem);
        Checks.test("Promise 5: IllegalArgumentException: n is below 0",
                PromisesBoundaryTest::promise5Below0);
        Checks.test("Promise 5: or there are not so many", PromisesBoundaryTest::promise5NotSoMany);
        Checks.test("Promise 6: " + NO_EVENT, PromisesBoundaryTest::promise6NoSuchEvent);
        Checks.test("Promise 7, by promise 6: " + NO_EVENT, PromisesBoundaryTest::promise7NoSuchEvent);
        Checks.test("Promise 8, by promise 6: " + NO_EVENT, PromisesBoundaryTest::promise8NoSuchEvent);
        Checks.test("Promise 9, by promise 2: " + NO_PROCESS, PromisesBoundaryTest::promise9NoSuchProcess);
        Checks.test("Promise 9, by promise 6: " + NO_EVENT, PromisesBoundaryTest::promise9NoSuchEvent);
        Checks.test("Promise 9: IllegalArgumentException: looked at first",
                PromisesBoundaryTest::promise9LookedAtFirst);
        Checks.test("Promise 10, by promise 2: " + NO_PROCESS, PromisesBoundaryTest::promise10NoSuchProcess);
        Checks.test("Promise 10: 0 at first", PromisesBoundaryTest::promise10NoneAtFirst);
        Checks.test("Promise 10: if fewer are left by undo(), it has these",
                PromisesBoundaryTest::promise10FewerAreLeft);
        Checks.test("Promise 10: if fewer are left by undo(), it has these",
                PromisesBoundaryTest::promise10ItHasTheseAlone);
        Checks.test("Promise 10: IllegalArgumentException: n is below 0",
                PromisesBoundaryTest::promise10Below0);
        Checks.test("Promise 10: or it has not so many, too", PromisesBoundaryTest::promise10NotSoMany);
        Checks.test("Promise 11: Whether the CUT is WHOLE", PromisesBoundaryTest::promise11FromNoneToAll);
        Checks.test("Promise 11: Whether the CUT is WHOLE", PromisesBoundaryTest::promise11AfterUndo);
        Checks.test("Promise 12: how many EVENTS it has", PromisesBoundaryTest::promise12FromNoneToAll);
        Checks.test("Promise 12: The CUT becomes the least WHOLE one that has it in it",
                PromisesBoundaryTest::promise12TheLeast);
        Checks.test("Promise 13: how many EVENTS it has", PromisesBoundaryTest::promise13FromNoneToAll);
        Checks.test("Promise 13: The CUT becomes the greatest WHOLE one that is in it",
                PromisesBoundaryTest::promise13TheGreatest);
        Checks.test("Promise 14: What 0: EVENTS; 1: pairs of EVENTS that are APART; .. 3: EVENTS in the CUT",
                PromisesBoundaryTest::promise14FromNoneTo200);
        Checks.test("Promise 14: (0 without EVENTS)", PromisesBoundaryTest::promise14NoRankWithoutEvents);
        Checks.test("Promise 14: IllegalArgumentException for others", PromisesBoundaryTest::promise14Others);
        Checks.finish();
    }

    /** The relay with a cut that is not whole. */
    private static CausalDesk cutRelay() {
        CausalDesk desk = Desks.relay();
        Desks.cutAll(desk, 1, 2, 1);
        return desk;
    }

    private static CausalDesk cutFull() {
        CausalDesk desk = Desks.full();
        Desks.cutAll(desk, 34, 20, 1, 0, 33, 5);
        return desk;
    }

    private static void promise1NoEvents() {
        CausalDesk desk = new CausalDesk();
        for (int what = 0; what < 4; what++) {
            Checks.same("count(" + what + ")", desk.count(what), 0);
        }
        Checks.yes("whole()", desk.whole());
        Checks.same("close()", desk.close(), 0);
        Checks.same("open()", desk.open(), 0);
        Checks.refused("before(0, 0)", Checks.INDEX, () -> desk.before(0, 0));
        Checks.refused("apart(0, 0)", Checks.INDEX, () -> desk.apart(0, 0));
        Checks.refused("rank(0)", Checks.INDEX, () -> desk.rank(0));
        Checks.refused("clock(0, 0)", Checks.INDEX, () -> desk.clock(0, 0));
        Checks.refused("receive(1, 0)", Checks.ARGUMENT, () -> desk.receive(1, 0));
        Checks.refused("undo(1)", Checks.ARGUMENT, () -> desk.undo(1));
        for (int process = 0; process < Desks.PROCESSES; process++) {
            int one = process;
            Checks.refused("cut(" + one + ", 1)", Checks.ARGUMENT, () -> desk.cut(one, 1));
        }
        Desks.relay();
        Checks.same("with events of another object, count(0)", desk.count(0), 0);
        Checks.same("the first number", desk.own(3), 0);
    }

    private static void promise1ArgumentsFirst() {
        CausalDesk full = Desks.full();
        for (int process : Desks.outside(5)) {
            Checks.refused("full, own(" + process + ")", Checks.ARGUMENT, () -> full.own(process));
            Checks.refused("full, send(" + process + ")", Checks.ARGUMENT, () -> full.send(process));
            Checks.refused("full, receive(" + process + ", 0)", Checks.ARGUMENT, () -> full.receive(process, 0));
        }
        for (int e : Desks.outside(199)) {
            Checks.refused("full, receive(1, " + e + ")", Checks.ARGUMENT, () -> full.receive(1, e));
        }
        Checks.refused("full, 1 is own, receive(0, 1)", Checks.ARGUMENT, () -> full.receive(0, 1));
        Checks.refused("full, same process, receive(0, 0)", Checks.ARGUMENT, () -> full.receive(0, 0));
        Checks.refused("full, same process, receive(0, 198)", Checks.ARGUMENT, () -> full.receive(0, 198));
        Checks.refused("full, no such process nor event", Checks.ARGUMENT, () -> full.clock(200, 6));
    }

    private static void promise1WhatThrowsChangesNothing() {
        unchanged("own(6)", Checks.ARGUMENT, desk -> desk.own(6));
        unchanged("own(-1)", Checks.ARGUMENT, desk -> desk.own(-1));
        unchanged("send(6)", Checks.ARGUMENT, desk -> desk.send(6));
        unchanged("send(-1)", Checks.ARGUMENT, desk -> desk.send(-1));
        unchanged("receive(6, 0)", Checks.ARGUMENT, desk -> desk.receive(6, 0));
        unchanged("receive(2, 1)", Checks.ARGUMENT, desk -> desk.receive(2, 1));
        unchanged("receive(0, 0)", Checks.ARGUMENT, desk -> desk.receive(0, 0));
        unchanged("receive(2, 6)", Checks.ARGUMENT, desk -> desk.receive(2, 6));
        unchanged("undo(7)", Checks.ARGUMENT, desk -> desk.undo(7));
        unchanged("undo(-1)", Checks.ARGUMENT, desk -> desk.undo(-1));
        unchanged("before(0, 6)", Checks.INDEX, desk -> desk.before(0, 6));
        unchanged("apart(-1, 0)", Checks.INDEX, desk -> desk.apart(-1, 0));
        unchanged("rank(6)", Checks.INDEX, desk -> desk.rank(6));
        unchanged("clock(6, 0)", Checks.INDEX, desk -> desk.clock(6, 0));
        unchanged("clock(0, 6)", Checks.ARGUMENT, desk -> desk.clock(0, 6));
        unchanged("cut(1, 4)", Checks.ARGUMENT, desk -> desk.cut(1, 4));
        unchanged("cut(1, -1)", Checks.ARGUMENT, desk -> desk.cut(1, -1));
        unchanged("cut(6, 0)", Checks.ARGUMENT, desk -> desk.cut(6, 0));
        unchanged("count(4)", Checks.ARGUMENT, desk -> desk.count(4));
        unchanged("count(-1)", Checks.ARGUMENT, desk -> desk.count(-1));
    }

    private static void promise1WhatThrowsChangesNothingWhenFull() {
        unchangedFull("own(1)", Checks.INDEX, desk -> desk.own(1));
        unchangedFull("own(6)", Checks.ARGUMENT, desk -> desk.own(6));
        unchangedFull("send(1)", Checks.INDEX, desk -> desk.send(1));
        unchangedFull("send(6)", Checks.ARGUMENT, desk -> desk.send(6));
        unchangedFull("receive(1, 198)", Checks.INDEX, desk -> desk.receive(1, 198));
        unchangedFull("receive(0, 198)", Checks.ARGUMENT, desk -> desk.receive(0, 198));
        unchangedFull("undo(201)", Checks.ARGUMENT, desk -> desk.undo(201));
        unchangedFull("rank(200)", Checks.INDEX, desk -> desk.rank(200));
        unchangedFull("cut(1, 35)", Checks.ARGUMENT, desk -> desk.cut(1, 35));
    }

    private static void unchanged(String call, String due, DeskCall refused) {
        unchanged(call, due, refused, PromisesBoundaryTest::cutRelay);
    }

    private static void unchangedFull(String call, String due, DeskCall refused) {
        unchanged("full, " + call, due, refused, PromisesBoundaryTest::cutFull);
    }

    /** Holds the desk against one that was made alike and not called. */
    private static void unchanged(String call, String due, DeskCall refused, Supplier<CausalDesk> maker) {
        CausalDesk desk = maker.get();
        Checks.refused(call, due, () -> refused.on(desk));
        Checks.same("what the desk tells after " + call, Desks.told(desk), Desks.told(maker.get()));
    }

    private static void promise2NoSuchProcess() {
        CausalDesk desk = Desks.relay();
        for (int process : Desks.outside(5)) {
            Checks.refused("own(" + process + ")", Checks.ARGUMENT, () -> desk.own(process));
        }
        Checks.same("own(0)", desk.own(0), 6);
        Checks.same("own(5)", desk.own(5), 7);
    }

    private static void promise2ThereAre200() {
        CausalDesk desk = Desks.full();
        for (int process = 0; process < Desks.PROCESSES; process++) {
            int one = process;
            Checks.refused("the 201st, own(" + one + ")", Checks.INDEX, () -> desk.own(one));
        }
        desk.undo(1);
        Checks.same("the 200th, own(5)", desk.own(5), 199);
        Checks.refused("the 201st again, own(5)", Checks.INDEX, () -> desk.own(5));
    }

    private static void promise3NoSuchProcess() {
        CausalDesk desk = Desks.relay();
        for (int process : Desks.outside(5)) {
            Checks.refused("send(" + process + ")", Checks.ARGUMENT, () -> desk.send(process));
        }
        Checks.same("send(0)", desk.send(0), 6);
        Checks.same("send(5)", desk.send(5), 7);
        Checks.same("what 5 sent is received", desk.receive(0, 7), 8);
    }

    private static void promise3ThereAre200() {
        CausalDesk desk = Desks.full();
        for (int process = 0; process < Desks.PROCESSES; process++) {
            int one = process;
            Checks.refused("the 201st, send(" + one + ")", Checks.INDEX, () -> desk.send(one));
        }
        desk.undo(1);
        Checks.same("the 200th, send(5)", desk.send(5), 199);
        Checks.refused("the 201st again, send(5)", Checks.INDEX, () -> desk.send(5));
        Checks.refused("it sends, but there are 200", Checks.INDEX, () -> desk.receive(0, 199));
    }

    private static void promise4NoSuchProcess() {
        CausalDesk desk = Desks.relay();
        for (int process : Desks.outside(5)) {
            Checks.refused("receive(" + process + ", 0)", Checks.ARGUMENT, () -> desk.receive(process, 0));
            Checks.refused("nor does 6 send", Checks.ARGUMENT, () -> desk.receive(process, 6));
        }
        Checks.same("receive(5, 0)", desk.receive(5, 0), 6);
        Checks.same("receive(0, 3)", desk.receive(0, 3), 7);
    }

    private static void promise4ThereAre200() {
        CausalDesk desk = Desks.full();
        for (int process = 1; process < Desks.PROCESSES; process++) {
            int one = process;
            Checks.refused("the 201st, receive(" + one + ", 0)", Checks.INDEX, () -> desk.receive(one, 0));
            Checks.refused("the 201st, receive(" + one + ", 198)", Checks.INDEX, () -> desk.receive(one, 198));
        }
        desk.undo(1);
        Checks.same("the 200th, receive(5, 198)", desk.receive(5, 198), 199);
        Checks.refused("the 201st again, receive(5, 198)", Checks.INDEX, () -> desk.receive(5, 198));
    }

    private static void promise4DoesNotSend() {
        CausalDesk desk = Desks.relay();
        for (int e : new int[] {1, 2, 4, 5}) {
            Checks.refused("receive(3, " + e + ")", Checks.ARGUMENT, () -> desk.receive(3, e));
        }
        for (int e : Desks.outside(5)) {
            Checks.refused("no such event, receive(3, " + e + ")", Checks.ARGUMENT, () -> desk.receive(3, e));
        }
        Checks.same("receive(3, 0)", desk.receive(3, 0), 6);
        Checks.same("receive(3, 3)", desk.receive(3, 3), 7);
        Checks.refused("what is received is not sent on", Checks.ARGUMENT, () -> desk.receive(4, 6));
    }

    private static void promise4DoesNotSendAnyMore() {
        CausalDesk desk = Desks.relay();
        desk.undo(3);
        Checks.refused("3 is gone", Checks.ARGUMENT, () -> desk.receive(4, 3));
        desk.own(1);
        Checks.refused("3 is own now", Checks.ARGUMENT, () -> desk.receive(4, 3));
        desk.undo(1);
        desk.receive(3, 0);
        Checks.refused("3 receives now", Checks.ARGUMENT, () -> desk.receive(4, 3));
        desk.undo(1);
        desk.send(3);
        Checks.same("3 sends again", desk.receive(1, 3), 4);
        desk.undo(5);
        Checks.refused("all are gone", Checks.ARGUMENT, () -> desk.receive(4, 0));
    }

    private static void promise4SameProcess() {
        for (int process = 0; process < Desks.PROCESSES; process++) {
            int one = process;
            CausalDesk desk = new CausalDesk();
            desk.send(one);
            Checks.refused("receive(" + one + ", 0)", Checks.ARGUMENT, () -> desk.receive(one, 0));
            Checks.same("by the next process", desk.receive((one + 1) % Desks.PROCESSES, 0), 1);
            Checks.refused("received already", Checks.ARGUMENT, () -> desk.receive(one, 0));
        }
        CausalDesk moved = new CausalDesk();
        moved.send(2);
        moved.undo(1);
        moved.send(4);
        Checks.refused("0 is of 4 now", Checks.ARGUMENT, () -> moved.receive(4, 0));
        Checks.same("and no more of 2", moved.receive(2, 0), 1);
    }

    private static void promise5FromNoneToAll() {
        CausalDesk desk = cutRelay();
        desk.undo(0);
        Checks.same("what the desk tells after undo(0)", Desks.told(desk), Desks.told(cutRelay()));
        desk.undo(1);
        Checks.same("undo(1), count(0)", desk.count(0), 5);
        Checks.same("undo(1), the latest left", desk.rank(4), 4);
        Checks.refused("undo(1), rank(5)", Checks.INDEX, () -> desk.rank(5));
        desk.undo(5);
        Checks.same("what the desk tells after all", Desks.told(desk), Desks.told(new CausalDesk()));
        desk.undo(0);
        Checks.same("undo(0) of none", desk.count(0), 0);
        CausalDesk full = Desks.full();
        full.undo(199);
        Checks.same("undo(199) of 200, count(0)", full.count(0), 1);
        Checks.same("the first is left", full.receive(1, 0), 1);
        CausalDesk all = Desks.chain();
        all.undo(200);
        Checks.same("undo(200) of 200", Desks.told(all), Desks.told(new CausalDesk()));
    }

    /** Each of the chain leaves a row behind that knows more than the event made in its place. */
    private static void promise5NothingIsLeftOfThem() {
        CausalDesk desk = Desks.chain();
        desk.undo(200);
        desk.own(5);
        desk.send(1);
        desk.receive(0, 1);
        CausalDesk fresh = new CausalDesk();
        fresh.own(5);
        fresh.send(1);
        fresh.receive(0, 1);
        Checks.same("what the desk tells", Desks.told(desk), Desks.told(fresh));
        CausalDesk half = Desks.relay();
        half.undo(3);
        half.send(2);
        half.own(1);
        half.receive(1, 3);
        CausalDesk straight = new CausalDesk();
        straight.send(0);
        straight.own(1);
        straight.receive(1, 0);
        straight.send(2);
        straight.own(1);
        straight.receive(1, 3);
        Checks.same("what the desk tells after undo(3)", Desks.told(half), Desks.told(straight));
    }

    private static void promise5Below0() {
        CausalDesk desk = Desks.relay();
        for (int n : Desks.outside(6)) {
            if (n < 0) {
                Checks.refused("undo(" + n + ")", Checks.ARGUMENT, () -> desk.undo(n));
            }
        }
        Checks.same("count(0)", desk.count(0), 6);
        CausalDesk full = Desks.full();
        Checks.refused("full, undo(-1)", Checks.ARGUMENT, () -> full.undo(-1));
        CausalDesk empty = new CausalDesk();
        Checks.refused("empty, undo(-1)", Checks.ARGUMENT, () -> empty.undo(-1));
    }

    private static void promise5NotSoMany() {
        CausalDesk desk = Desks.relay();
        for (int n : Desks.outside(6)) {
            if (n > 0) {
                Checks.refused("undo(" + n + ")", Checks.ARGUMENT, () -> desk.undo(n));
            }
        }
        desk.undo(4);
        Checks.refused("2 are left, undo(3)", Checks.ARGUMENT, () -> desk.undo(3));
        desk.undo(2);
        Checks.refused("none are left, undo(1)", Checks.ARGUMENT, () -> desk.undo(1));
        CausalDesk full = Desks.full();
        Checks.refused("full, undo(201)", Checks.ARGUMENT, () -> full.undo(201));
        Checks.same("count(0)", full.count(0), Desks.FULL);
    }

    private static void promise6NoSuchEvent() {
        CausalDesk desk = Desks.relay();
        for (int e : Desks.outside(5)) {
            Checks.refused("before(" + e + ", 0)", Checks.INDEX, () -> desk.before(e, 0));
            Checks.refused("before(0, " + e + ")", Checks.INDEX, () -> desk.before(0, e));
            Checks.refused("before(" + e + ", " + e + ")", Checks.INDEX, () -> desk.before(e, e));
        }
        Checks.yes("the last of 6, before(0, 5)", desk.before(0, 5));
        desk.undo(1);
        Checks.refused("gone, before(0, 5)", Checks.INDEX, () -> desk.before(0, 5));
        Checks.refused("gone, before(5, 0)", Checks.INDEX, () -> desk.before(5, 0));
        CausalDesk full = Desks.full();
        Checks.yes("full, before(1, 199)", full.before(1, 199));
        Checks.refused("full, before(1, 200)", Checks.INDEX, () -> full.before(1, 200));
        Checks.refused("full, before(200, 1)", Checks.INDEX, () -> full.before(200, 1));
    }

    private static void promise7NoSuchEvent() {
        CausalDesk desk = Desks.relay();
        for (int e : Desks.outside(5)) {
            Checks.refused("apart(" + e + ", 0)", Checks.INDEX, () -> desk.apart(e, 0));
            Checks.refused("apart(0, " + e + ")", Checks.INDEX, () -> desk.apart(0, e));
            Checks.refused("apart(" + e + ", " + e + ")", Checks.INDEX, () -> desk.apart(e, e));
        }
        Checks.yes("the last of 6, apart(4, 5)", desk.apart(4, 5));
        desk.undo(1);
        Checks.refused("gone, apart(4, 5)", Checks.INDEX, () -> desk.apart(4, 5));
        Checks.refused("gone, apart(5, 4)", Checks.INDEX, () -> desk.apart(5, 4));
        CausalDesk full = Desks.full();
        Checks.yes("full, apart(0, 199)", full.apart(0, 199));
        Checks.refused("full, apart(0, 200)", Checks.INDEX, () -> full.apart(0, 200));
        Checks.refused("full, apart(200, 0)", Checks.INDEX, () -> full.apart(200, 0));
    }

    private static void promise8NoSuchEvent() {
        CausalDesk desk = Desks.relay();
        for (int e : Desks.outside(5)) {
            Checks.refused("rank(" + e + ")", Checks.INDEX, () -> desk.rank(e));
        }
        Checks.same("the last of 6, rank(5)", desk.rank(5), 2);
        desk.undo(1);
        Checks.refused("gone, rank(5)", Checks.INDEX, () -> desk.rank(5));
        CausalDesk full = Desks.full();
        Checks.same("full, rank(199)", full.rank(199), 34);
        Checks.refused("full, rank(200)", Checks.INDEX, () -> full.rank(200));
    }

    private static void promise9NoSuchProcess() {
        CausalDesk desk = Desks.relay();
        for (int process : Desks.outside(5)) {
            Checks.refused("clock(0, " + process + ")", Checks.ARGUMENT, () -> desk.clock(0, process));
            Checks.refused("clock(5, " + process + ")", Checks.ARGUMENT, () -> desk.clock(5, process));
        }
        Checks.same("clock(5, 0)", desk.clock(5, 0), 2);
        Checks.same("clock(5, 5)", desk.clock(5, 5), 0);
    }

    private static void promise9NoSuchEvent() {
        CausalDesk desk = Desks.relay();
        for (int e : Desks.outside(5)) {
            Checks.refused("clock(" + e + ", 0)", Checks.INDEX, () -> desk.clock(e, 0));
            Checks.refused("clock(" + e + ", 5)", Checks.INDEX, () -> desk.clock(e, 5));
        }
        desk.undo(1);
        Checks.refused("gone, clock(5, 0)", Checks.INDEX, () -> desk.clock(5, 0));
        CausalDesk full = Desks.full();
        Checks.same("full, clock(199, 1)", full.clock(199, 1), 34);
        Checks.refused("full, clock(200, 1)", Checks.INDEX, () -> full.clock(200, 1));
    }

    private static void promise9LookedAtFirst() {
        CausalDesk desk = Desks.relay();
        CausalDesk empty = new CausalDesk();
        for (int process : Desks.outside(5)) {
            for (int e : new int[] {-1, 6, 200, Integer.MIN_VALUE, Integer.MAX_VALUE}) {
                String call = "clock(" + e + ", " + process + ")";
                Checks.refused(call, Checks.ARGUMENT, () -> desk.clock(e, process));
            }
            Checks.refused("empty, clock(0, " + process + ")", Checks.ARGUMENT, () -> empty.clock(0, process));
        }
    }

    private static void promise10NoSuchProcess() {
        CausalDesk desk = Desks.relay();
        for (int process : Desks.outside(5)) {
            Checks.refused("cut(" + process + ", 0)", Checks.ARGUMENT, () -> desk.cut(process, 0));
            Checks.refused("cut(" + process + ", 1)", Checks.ARGUMENT, () -> desk.cut(process, 1));
        }
        Desks.cutIs("the cut", desk);
        Checks.taken("cut(0, 0)", () -> desk.cut(0, 0));
        Checks.taken("cut(5, 0)", () -> desk.cut(5, 0));
    }

    private static void promise10NoneAtFirst() {
        Desks.cutIs("new", new CausalDesk());
        CausalDesk desk = Desks.relay();
        Desks.cutIs("with events", desk);
        desk.cut(0, 2);
        desk.own(0);
        Desks.cutIs("a new event is not in it", desk, 2);
        desk.cut(0, 0);
        Desks.cutIs("none again", desk);
    }

    private static void promise10FewerAreLeft() {
        CausalDesk desk = Desks.relay();
        Desks.cutAll(desk, 2, 3, 1);
        desk.undo(1);
        Desks.cutIs("one fewer of 0", desk, 1, 3, 1);
        desk.undo(2);
        Desks.cutIs("one fewer of 1 and none of 2", desk, 1, 2);
        desk.own(1);
        desk.own(2);
        Desks.cutIs("those made later are not these", desk, 1, 2);
        desk.undo(2);
        Desks.cutIs("as many are left as it has", desk, 1, 2);
        desk.cut(1, 1);
        desk.undo(1);
        Desks.cutIs("as many are left as it has now", desk, 1, 1);
        desk.undo(2);
        Desks.cutIs("none are left", desk);
        CausalDesk line = Desks.line(5);
        line.cut(5, 200);
        line.undo(199);
        Checks.same("1 of 200 is left, count(3)", line.count(3), 1);
    }

    /** The cut is looked at by count() alone: cut() would set anew what undo() has lowered. */
    private static void promise10ItHasTheseAlone() {
        CausalDesk desk = Desks.relay();
        Desks.cutAll(desk, 2, 3, 1);
        desk.undo(3);
        desk.send(1);
        desk.receive(2, 3);
        desk.own(0);
        Checks.same("three are made again, count(3)", desk.count(3), 3);
        Checks.yes("these need nothing else, whole()", desk.whole());
        Checks.same("close()", desk.close(), 3);
        Checks.same("open()", desk.open(), 3);
        Desks.cutIs("these alone", desk, 1, 2);
        CausalDesk line = Desks.line(5);
        line.cut(5, 200);
        line.undo(1);
        line.own(5);
        Checks.same("the 200th is another one, count(3)", line.count(3), 199);
        line.undo(200);
        line.own(5);
        Checks.same("the first is another one, count(3)", line.count(3), 0);
    }

    private static void promise10Below0() {
        CausalDesk desk = cutRelay();
        for (int n : Desks.outside(3)) {
            if (n < 0) {
                Checks.refused("cut(1, " + n + ")", Checks.ARGUMENT, () -> desk.cut(1, n));
                Checks.refused("it has none, cut(5, " + n + ")", Checks.ARGUMENT, () -> desk.cut(5, n));
            }
        }
        Desks.cutIs("the cut", desk, 1, 2, 1);
        Checks.taken("cut(1, 0)", () -> desk.cut(1, 0));
        Checks.taken("it has none, cut(5, 0)", () -> desk.cut(5, 0));
    }

    private static void promise10NotSoMany() {
        CausalDesk desk = cutRelay();
        for (int n : Desks.outside(3)) {
            if (n > 0) {
                Checks.refused("cut(1, " + n + ")", Checks.ARGUMENT, () -> desk.cut(1, n));
            }
        }
        Checks.refused("cut(0, 3)", Checks.ARGUMENT, () -> desk.cut(0, 3));
        Checks.refused("cut(2, 2)", Checks.ARGUMENT, () -> desk.cut(2, 2));
        Checks.refused("it has none, cut(5, 1)", Checks.ARGUMENT, () -> desk.cut(5, 1));
        Desks.cutIs("the cut", desk, 1, 2, 1);
        Checks.taken("all of it, cut(1, 3)", () -> desk.cut(1, 3));
        desk.undo(3);
        Checks.refused("one is undone, cut(1, 3)", Checks.ARGUMENT, () -> desk.cut(1, 3));
        Checks.refused("all are undone, cut(2, 1)", Checks.ARGUMENT, () -> desk.cut(2, 1));
        desk.own(1);
        Checks.taken("one is made again, cut(1, 3)", () -> desk.cut(1, 3));
    }

    private static void promise11FromNoneToAll() {
        Checks.yes("no events", new CausalDesk().whole());
        CausalDesk full = Desks.full();
        Checks.yes("none of 200", full.whole());
        Desks.cutAll(full, 34, 34, 33, 33, 33, 33);
        Checks.yes("all 200", full.whole());
        full.undo(1);
        full.receive(5, 198);
        Desks.cutAll(full, 33, 33, 33, 33, 33, 34);
        Checks.no("the 200th receives what is not in it", full.whole());
        Desks.cutIs("whole() changes nothing", full, 33, 33, 33, 33, 33, 34);
        full.cut(0, 34);
        Checks.yes("and what is", full.whole());
    }

    /** The undone receive had the same place in process 0 as the own event made after it. */
    private static void promise11AfterUndo() {
        CausalDesk desk = new CausalDesk();
        desk.send(1);
        desk.own(2);
        desk.receive(0, 0);
        desk.cut(0, 1);
        Checks.no("its send is not in it", desk.whole());
        desk.undo(2);
        Checks.yes("it is undone", desk.whole());
        desk.own(0);
        desk.cut(0, 1);
        Checks.yes("one that needs nothing is there", desk.whole());
        Checks.same("close()", desk.close(), 1);
        Checks.same("open()", desk.open(), 1);
        Desks.cutIs("the cut", desk, 1);
    }

    private static void promise12FromNoneToAll() {
        Checks.same("no events", new CausalDesk().close(), 0);
        CausalDesk chain = Desks.chain();
        Checks.same("none of 200", chain.close(), 0);
        chain.cut(0, 1);
        Checks.same("the first", chain.close(), 1);
        chain.cut(4, 33);
        Checks.same("the last brings all", chain.close(), Desks.FULL);
        Desks.cutIs("all", chain, Desks.chainLengths());
        Checks.same("all again", chain.close(), Desks.FULL);
        chain.undo(Desks.FULL);
        Checks.same("all are undone", chain.close(), 0);
    }

    private static void promise12TheLeast() {
        CausalDesk chain = Desks.chain();
        chain.cut(3, 33);
        Checks.same("197 before the last but two", chain.close(), 198);
        Desks.cutIs("all but the last two", chain, 33, 34, 34, 33, 32, 32);
        CausalDesk desk = Desks.relay();
        Desks.cutAll(desk, 2, 2);
        Checks.same("it is whole", desk.close(), 4);
        Desks.cutIs("it stays", desk, 2, 2);
        Desks.cutAll(desk, 0, 2);
        Checks.same("one is missing", desk.close(), 3);
        Desks.cutIs("the one that is sent comes, and not the next", desk, 1, 2);
    }

    private static void promise13FromNoneToAll() {
        Checks.same("no events", new CausalDesk().open(), 0);
        CausalDesk chain = Desks.chain();
        Checks.same("none of 200", chain.open(), 0);
        Desks.cutAll(chain, Desks.chainLengths());
        Checks.same("all 200", chain.open(), Desks.FULL);
        Desks.cutIs("all", chain, Desks.chainLengths());
        chain.cut(0, 0);
        Checks.same("without the first", chain.open(), 0);
        Desks.cutIs("none", chain);
        Desks.cutAll(chain, Desks.chainLengths());
        chain.undo(Desks.FULL);
        Checks.same("all are undone", chain.open(), 0);
    }

    private static void promise13TheGreatest() {
        CausalDesk chain = Desks.chain();
        Desks.cutAll(chain, Desks.chainLengths());
        chain.cut(3, 33);
        Checks.same("without the last but one", chain.open(), 198);
        Desks.cutIs("all but the last two", chain, 33, 34, 34, 33, 32, 32);
        CausalDesk desk = Desks.relay();
        Desks.cutAll(desk, 2, 2);
        Checks.same("it is whole", desk.open(), 4);
        Desks.cutIs("it stays", desk, 2, 2);
        Desks.cutAll(desk, 2, 2, 1);
        Checks.same("one is missing", desk.open(), 4);
        Desks.cutIs("the one that receives goes, and no other", desk, 2, 2);
    }

    private static void promise14FromNoneTo200() {
        CausalDesk desk = new CausalDesk();
        counts("none", desk, 0, 0, 0, 0);
        desk.own(2);
        counts("one", desk, 1, 0, 1, 0);
        desk.own(3);
        counts("two", desk, 2, 1, 1, 0);
        desk.cut(3, 1);
        counts("one in the cut", desk, 2, 1, 1, 1);
        // Four processes have 33 events and two have 34; all pairs across processes are apart.
        int inside = 4 * (33 * 32 / 2) + 2 * (34 * 33 / 2);
        CausalDesk full = Desks.full();
        Desks.cutAll(full, 34, 34, 33, 33, 33, 33);
        counts("200, as many apart as can be", full, 200, 200 * 199 / 2 - inside, 34, 200);
        CausalDesk chain = Desks.chain();
        counts("200, none apart", chain, 200, 0, 200, 0);
        chain.undo(1);
        counts("199, none apart", chain, 199, 0, 199, 0);
    }

    private static void counts(String what, CausalDesk desk, int... due) {
        for (int i = 0; i < due.length; i++) {
            Checks.same(what + ", count(" + i + ")", desk.count(i), due[i]);
        }
    }

    private static void promise14NoRankWithoutEvents() {
        CausalDesk desk = new CausalDesk();
        Checks.same("new, count(2)", desk.count(2), 0);
        desk.own(0);
        desk.own(0);
        desk.undo(1);
        Checks.same("one is left, count(2)", desk.count(2), 1);
        desk.undo(1);
        Checks.same("none are left, count(2)", desk.count(2), 0);
    }

    private static void promise14Others() {
        CausalDesk empty = new CausalDesk();
        CausalDesk desk = Desks.relay();
        for (int what : Desks.outside(3)) {
            Checks.refused("empty, count(" + what + ")", Checks.ARGUMENT, () -> empty.count(what));
            Checks.refused("count(" + what + ")", Checks.ARGUMENT, () -> desk.count(what));
        }
        Checks.taken("count(0)", () -> desk.count(0));
        Checks.taken("count(3)", () -> desk.count(3));
    }
}
