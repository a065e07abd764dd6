/** One method for each promise, by ordinary inputs; edges and wrong inputs are in the boundary tests. */
public final class PromisesTest {
    public static void main(String[] args) {
        Checks.test("Promise 1: A new object", PromisesTest::promise1NewObject);
        Checks.test("Promise 2: own", PromisesTest::promise2Own);
        Checks.test("Promise 3: send", PromisesTest::promise3Send);
        Checks.test("Promise 4: receive", PromisesTest::promise4Receive);
        Checks.test("Promise 5: undo", PromisesTest::promise5Undo);
        Checks.test("Promise 6: before", PromisesTest::promise6Before);
        Checks.test("Promise 7: apart", PromisesTest::promise7Apart);
        Checks.test("Promise 8: rank", PromisesTest::promise8Rank);
        Checks.test("Promise 9: clock", PromisesTest::promise9Clock);
        Checks.test("Promise 10: cut", PromisesTest::promise10Cut);
        Checks.test("Promise 11: whole", PromisesTest::promise11Whole);
        Checks.test("Promise 12: close", PromisesTest::promise12Close);
        Checks.test("Promise 13: open", PromisesTest::promise13Open);
        Checks.test("Promise 14: count", PromisesTest::promise14Count);
        Checks.finish();
    }

    private static void promise1NewObject() {
        CausalDesk desk = new CausalDesk();
        CausalDesk other = Desks.relay();
        Checks.same("events", desk.count(0), 0);
        Checks.same("another object has its own", other.count(0), 6);
        other.undo(6);
        Checks.same("what a new one tells", Desks.told(desk), Desks.told(other));
    }

    private static void promise2Own() {
        CausalDesk desk = new CausalDesk();
        for (int process = 0; process < Desks.PROCESSES; process++) {
            Checks.same("own(" + process + ")", desk.own(process), process);
            Checks.same("its clock", desk.clock(process, process), 1);
        }
        Checks.same("the next of process 3", desk.own(3), 6);
        Checks.yes("the first of 3 is before the next", desk.before(3, 6));
        for (int e = 0; e < 7; e++) {
            int sender = e;
            int receiver = e == 0 ? 1 : 0;
            Checks.refused("own does not send", Checks.ARGUMENT, () -> desk.receive(receiver, sender));
        }
    }

    private static void promise3Send() {
        CausalDesk desk = new CausalDesk();
        for (int process = 0; process < Desks.PROCESSES; process++) {
            Checks.same("send(" + process + ")", desk.send(process), process);
        }
        for (int process = 0; process < Desks.PROCESSES; process++) {
            int receiver = (process + 1) % Desks.PROCESSES;
            Checks.same("what was sent is received", desk.receive(receiver, process), 6 + process);
            Checks.yes("and is before that", desk.before(process, 6 + process));
        }
        Checks.same("the next of process 0", desk.send(0), 12);
        Checks.yes("sends follow one another", desk.before(0, 12));
    }

    private static void promise4Receive() {
        CausalDesk desk = Desks.relay();
        Checks.same("one more receives the same", desk.receive(3, 0), 6);
        Checks.same("the same process receives it again", desk.receive(3, 0), 7);
        Checks.yes("before the first", desk.before(0, 6));
        Checks.yes("one after the other", desk.before(6, 7));
        Checks.no("not before who did not receive", desk.before(5, 6));
        Checks.same("an early one is received late", desk.receive(2, 0), 8);
        Checks.same("clock for 0 after that", desk.clock(8, 0), 1);
        Checks.same("clock for 1 after that", desk.clock(8, 1), 3);
        Checks.same("a receive may come between", desk.receive(0, 3), 9);
        Checks.same("and knows both sides", desk.clock(9, 1), 3);
        Checks.same("its own too", desk.clock(9, 0), 3);
    }

    private static void promise5Undo() {
        CausalDesk desk = Desks.relay();
        desk.undo(2);
        Checks.same("undo(2) leaves 4", desk.count(0), 4);
        Checks.refused("4 is gone", Checks.INDEX, () -> desk.rank(4));
        Checks.same("3 is left", desk.rank(3), 3);
        Checks.same("numbers go on from there", desk.own(0), 4);
        Checks.same("after what is left of process 0", desk.clock(4, 0), 2);
        Checks.same("what is left still sends", desk.receive(2, 3), 5);
        Checks.same("with all before it", desk.rank(5), 4);
    }

    private static void promise6Before() {
        CausalDesk desk = Desks.relay();
        Checks.yes("by a message", desk.before(0, 2));
        Checks.yes("in one process", desk.before(1, 2));
        Checks.yes("in one process, two steps", desk.before(1, 3));
        Checks.yes("by two messages", desk.before(0, 4));
        Checks.yes("in process 0", desk.before(0, 5));
        Checks.no("not back", desk.before(4, 0));
        Checks.no("not itself", desk.before(2, 2));
        Checks.no("made earlier is not before", desk.before(0, 1));
        Checks.no("after the send is not before the receive", desk.before(5, 4));
        Checks.no("made later, apart", desk.before(4, 5));
    }

    private static void promise7Apart() {
        CausalDesk desk = Desks.relay();
        Checks.yes("1 and 0", desk.apart(1, 0));
        Checks.yes("0 and 1", desk.apart(0, 1));
        Checks.yes("5 and 4", desk.apart(5, 4));
        Checks.yes("1 and 5", desk.apart(1, 5));
        Checks.no("0 is before 4", desk.apart(0, 4));
        Checks.no("the other way round", desk.apart(4, 0));
        Checks.no("one process", desk.apart(0, 5));
        Checks.no("the same", desk.apart(3, 3));
    }

    private static void promise8Rank() {
        CausalDesk desk = Desks.relay();
        int[] due = {1, 1, 2, 3, 4, 2};
        for (int e = 0; e < due.length; e++) {
            Checks.same("rank(" + e + ")", desk.rank(e), due[e]);
        }
        desk.receive(0, 3);
        Checks.same("the message outranks the process", desk.rank(6), 4);
        desk.receive(2, 0);
        Checks.same("the process outranks the message", desk.rank(7), 5);
    }

    private static void promise9Clock() {
        CausalDesk desk = Desks.relay();
        int[][] due = {{1, 0, 0}, {0, 1, 0}, {1, 2, 0}, {1, 3, 0}, {1, 3, 1}, {2, 0, 0}};
        for (int e = 0; e < due.length; e++) {
            for (int process = 0; process < Desks.PROCESSES; process++) {
                int want = process < 3 ? due[e][process] : 0;
                Checks.same("clock(" + e + ", " + process + ")", desk.clock(e, process), want);
            }
        }
    }

    private static void promise10Cut() {
        CausalDesk desk = Desks.relay();
        desk.cut(1, 3);
        desk.cut(0, 1);
        Desks.cutIs("set", desk, 1, 3);
        desk.cut(1, 2);
        Desks.cutIs("lowered", desk, 1, 2);
        desk.cut(1, 3);
        Desks.cutIs("raised", desk, 1, 3);
        desk.own(0);
        desk.cut(0, 3);
        Desks.cutIs("with a new event", desk, 3, 3);
    }

    private static void promise11Whole() {
        CausalDesk desk = Desks.relay();
        Checks.yes("empty", desk.whole());
        desk.cut(2, 1);
        Checks.no("a receive without its send", desk.whole());
        desk.cut(1, 3);
        Checks.no("without the send before that", desk.whole());
        desk.cut(0, 1);
        Checks.yes("all before it", desk.whole());
        desk.cut(0, 2);
        Checks.yes("and one apart", desk.whole());
        desk.cut(2, 0);
        Checks.yes("sent and not received", desk.whole());
        desk.cut(0, 0);
        Checks.no("received and not sent", desk.whole());
        desk.cut(1, 1);
        Checks.yes("one of its own", desk.whole());
        Desks.cutIs("whole() changes nothing", desk, 0, 1);
    }

    private static void promise12Close() {
        CausalDesk desk = Desks.relay();
        desk.cut(2, 1);
        Checks.same("of the last receive", desk.close(), 5);
        Desks.cutIs("of the last receive", desk, 1, 3, 1);
        Checks.yes("it is whole", desk.whole());
        Checks.same("once more", desk.close(), 5);
        Desks.cutAll(desk, 2, 1, 0);
        Checks.same("of a whole one", desk.close(), 3);
        Desks.cutIs("of a whole one", desk, 2, 1);
    }

    private static void promise13Open() {
        CausalDesk desk = Desks.relay();
        Desks.cutAll(desk, 1, 2, 1);
        Checks.same("without event 3", desk.open(), 3);
        Desks.cutIs("without event 3", desk, 1, 2);
        Desks.cutAll(desk, 0, 3, 1);
        Checks.same("without event 0, by two messages", desk.open(), 1);
        Desks.cutIs("without event 0, by two messages", desk, 0, 1);
        Checks.yes("it is whole", desk.whole());
        Checks.same("once more", desk.open(), 1);
        Desks.cutAll(desk, 2, 3, 1);
        Checks.same("of a whole one", desk.open(), 6);
        Desks.cutIs("of a whole one", desk, 2, 3, 1);
    }

    private static void promise14Count() {
        CausalDesk desk = Desks.relay();
        Desks.cutAll(desk, 2, 1);
        Checks.same("events", desk.count(0), 6);
        Checks.same("pairs apart", desk.count(1), 5);
        Checks.same("greatest rank", desk.count(2), 4);
        Checks.same("events in the cut", desk.count(3), 3);
        desk.undo(2);
        Checks.same("pairs apart after undo", desk.count(1), 1);
        Checks.same("greatest rank after undo", desk.count(2), 3);
        Checks.same("events in the cut after undo", desk.count(3), 2);
    }
}
