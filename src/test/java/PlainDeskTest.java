import java.util.ArrayList;
import java.util.List;
import java.util.Random;

/** Holds CausalDesk against PlainDesk over many runs of calls, the same ones each time. */
public final class PlainDeskTest {
    private static final int RUNS = 400;
    private static final int LONG_RUNS = 6;
    private static final int MOST_CALLS = 512;
    private static final int NEARLY_FULL = 170;

    private interface Answer {
        long get();
    }

    private final Random random;
    private final CausalDesk desk = new CausalDesk();
    private final PlainDesk plain = new PlainDesk();
    private final List<String> calls = new ArrayList<>();
    private final int undoShare;

    private PlainDeskTest(int seed, int undoShare) {
        this.random = new Random(seed);
        this.undoShare = undoShare;
    }

    public static void main(String[] args) {
        for (int run = 0; run < RUNS; run++) {
            new PlainDeskTest(run, 6).play(90);
        }
        for (int run = 0; run < LONG_RUNS; run++) {
            PlainDeskTest test = new PlainDeskTest(RUNS + run, 1);
            test.fillMostly();
            // Each step is a call and a look at the cut.
            test.play((MOST_CALLS - NEARLY_FULL) / 2);
        }
        Checks.finish();
    }

    private void play(int length) {
        boolean agree = true;
        for (int i = 0; i < length && agree; i++) {
            agree = step();
        }
    }

    /** So that the calls that follow come upon the limit of 200 events. */
    private void fillMostly() {
        for (int i = 0; i < NEARLY_FULL; i++) {
            int process = random.nextInt(6);
            calls.add("send(" + process + ")");
            Checks.same("send(" + process + ")", desk.send(process), plain.send(process));
        }
    }

    private boolean step() {
        int kind = random.nextInt(100);
        if (kind < 12) {
            int process = process();
            return agree("own(" + process + ")", () -> desk.own(process), () -> plain.own(process));
        }
        if (kind < 30) {
            int process = process();
            return agree("send(" + process + ")", () -> desk.send(process), () -> plain.send(process));
        }
        if (kind < 55) {
            int process = process();
            int e = event();
            return agree("receive(" + process + ", " + e + ")",
                    () -> desk.receive(process, e), () -> plain.receive(process, e));
        }
        if (kind < 55 + undoShare) {
            int n = random.nextInt(8) - 1;
            return agree("undo(" + n + ")", () -> done(() -> desk.undo(n)), () -> done(() -> plain.undo(n)));
        }
        if (kind < 72) {
            int process = process();
            int n = random.nextInt(2 + plain.count(0) / 4) - random.nextInt(2);
            return agree("cut(" + process + ", " + n + ")",
                    () -> done(() -> desk.cut(process, n)), () -> done(() -> plain.cut(process, n)));
        }
        return kind < 82 ? askCut(kind) : askEvents(kind);
    }

    private boolean askCut(int kind) {
        if (kind < 76) {
            return agree("whole()", () -> desk.whole() ? 1 : 0, () -> plain.whole() ? 1 : 0);
        }
        if (kind < 79) {
            return agree("close()", () -> desk.close(), () -> plain.close());
        }
        return agree("open()", () -> desk.open(), () -> plain.open());
    }

    private boolean askEvents(int kind) {
        int e = event();
        int f = event();
        int process = process();
        int what = random.nextInt(6) - 1;
        if (kind < 86) {
            return agree("before(" + e + ", " + f + ")",
                    () -> desk.before(e, f) ? 1 : 0, () -> plain.before(e, f) ? 1 : 0);
        }
        if (kind < 90) {
            return agree("apart(" + e + ", " + f + ")",
                    () -> desk.apart(e, f) ? 1 : 0, () -> plain.apart(e, f) ? 1 : 0);
        }
        if (kind < 93) {
            return agree("rank(" + e + ")", () -> desk.rank(e), () -> plain.rank(e));
        }
        if (kind < 96) {
            return agree("clock(" + e + ", " + process + ")",
                    () -> desk.clock(e, process), () -> plain.clock(e, process));
        }
        return agree("count(" + what + ")", () -> desk.count(what), () -> plain.count(what));
    }

    /** Mostly one that there is; seldom one below or above. */
    private int process() {
        int wrong = random.nextInt(40);
        return wrong == 0 ? -1 : wrong == 1 ? 6 : random.nextInt(6);
    }

    private int event() {
        int made = plain.count(0);
        int wrong = random.nextInt(30);
        return wrong == 0 ? -1 : wrong == 1 || made == 0 ? made : random.nextInt(made);
    }

    private static long done(Checks.Call call) {
        call.run();
        return 0;
    }

    private static String told(Answer answer) {
        try {
            return Long.toString(answer.get());
        } catch (RuntimeException e) {
            return e.getClass().getSimpleName();
        }
    }

    private boolean agree(String call, Answer got, Answer due) {
        calls.add(call);
        String gotText = told(got);
        String dueText = told(due);
        if (!gotText.equals(dueText)) {
            Checks.report(call + " answered " + gotText + ", due is " + dueText + " after " + calls);
            return false;
        }
        // After each change the cut is compared too, as it is what no answer need show.
        if (desk.count(3) != plain.count(3)) {
            Checks.report(call + " left another cut after " + calls);
            return false;
        }
        return true;
    }
}
