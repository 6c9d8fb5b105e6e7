import java.util.ArrayList;
import java.util.List;

/** What "Terms" of the document tells of reasons, of changes that can be undone, and of exceptions. */
final class ReasonEdges {
    private static final int[] NUMBERS = {-2, -1, 0, 1, 2, 3, 4, 5, 6, 7, Integer.MIN_VALUE, Integer.MAX_VALUE};
    private static final int[] COSTS = {-1, 0, 1, 3, 4, 5, 9, 10, 11, Integer.MIN_VALUE, Integer.MAX_VALUE};

    private ReasonEdges() {
    }

    /** Three surveyors, of whom 2 is of the district 1, and a canal of cost 4 between 0 and 1. */
    private static CanalMaps three() {
        CanalMaps x = Surveys.of(3);
        x.canal(0, 1, 4);
        x.district(2, 1);
        return x;
    }

    // Reasons

    private static String pairRefused(int one, int other) {
        return one < 0 || one > 2 ? "3 " + one : other < 0 || other > 2 ? "3 " + other : one == other ? "4 " + one : "";
    }

    private static boolean isTheCanal(int one, int other) {
        return one + other == 1 && one * other == 0;
    }

    /** Numbers all around the edges, alone and together: the first reason of those that the method names. */
    @Sentence(of = 0, value = "Something is refused for the first that applies of the reasons that its method names, in")
    static void theFirstReasonThatApplies() {
        for (int one : NUMBERS) {
            for (int other : NUMBERS) {
                String pair = pairRefused(one, other);
                for (int cost : COSTS) {
                    boolean isOut = cost < 1 || cost > 9;
                    boolean isSo = isTheCanal(one, other) && cost == 4;
                    String due = !pair.isEmpty() ? pair : isOut ? "1 0" : isSo ? "5 0" : "";
                    expect(due, x -> x.canal(one, other, cost));
                }
                expect(!pair.isEmpty() ? pair : isTheCanal(one, other) ? "" : "6 0", x -> x.close(one, other));
                boolean isThere = one >= 0 && one <= 2;
                boolean isOut = other < 0 || other > 2;
                boolean isSo = other == (one == 2 ? 1 : 0);
                expect(!isThere ? "3 " + one : isOut ? "1 0" : isSo ? "5 0" : "", x -> x.district(one, other));
            }
        }
    }

    private static void expect(String due, Edge.Call call) {
        CanalMaps x = three();
        int made = x.account(7);
        int undone = x.account(9);
        try {
            call.on(x);
            Check.is(due, "");
            Check.is(undone + 1, x.account(9));
        } catch (UnsupportedOperationException refused) {
            Check.is(due, Surveys.keptReason(x));
            Check.is(made, x.account(7));
            Check.is(undone, x.account(9));
        }
    }

    @Sentence(of = 0, value = {"6, there is no canal; 7, there is no letter on its way; 8, a command is refused: its index,",
            "If nothing else is told, the detail is 0."})
    static void reasonsWithTheirDetails() {
        Edge.isRefused("1 0", ReasonEdges::three, x -> x.pass(0));
        Edge.isRefused("1 0", ReasonEdges::three, x -> x.pass(100));
        Edge.isRefused("1 0", ReasonEdges::three, x -> x.canal(0, 1, 10));
        Edge.isRefused("1 0", ReasonEdges::three, x -> x.district(1, 3));
        Edge.isRefused("2 6", () -> Surveys.of(6), x -> x.come());
        Edge.isRefused("3 3", ReasonEdges::three, x -> x.district(3, 0));
        Edge.isRefused("3 -1", ReasonEdges::three, x -> x.close(-1, 3));
        Edge.isRefused("3 -1", ReasonEdges::three, x -> x.close(2, -1));
        Edge.isRefused("4 0", ReasonEdges::three, x -> x.close(0, 0));
        Edge.isRefused("4 2", ReasonEdges::three, x -> x.canal(2, 2, 1));
        Edge.isRefused("5 0", ReasonEdges::three, x -> x.canal(1, 0, 4));
        Edge.isRefused("5 0", ReasonEdges::three, x -> x.district(2, 1));
        Edge.isRefused("6 0", ReasonEdges::three, x -> x.close(1, 2));
        Edge.isRefused("7 0", () -> Surveys.row(3), x -> x.lose());
        Edge.isRefused("8 0 6 0", ReasonEdges::three, x -> commandsOf(x, "x12;l"));
        Edge.isRefused("8 1 6 0", ReasonEdges::three, x -> commandsOf(x, "l;x12"));
        Edge.isRefused("8 2 7 0", ReasonEdges::three, x -> commandsOf(x, "l;l;l"));
    }

    /** The last of 30 commands is refused, and the first of 60 signs. */
    @Sentence(of = 0, value = "6, there is no canal; 7, there is no letter on its way; 8, a command is refused: its index,")
    static void theIndexOfTheCommand() {
        for (int ahead : new int[] {0, 1, 9, 10, 28, 29}) {
            CanalMaps x = letters(ahead);
            for (int index = 0; index < 29; index++) {
                Surveys.type(x, "l;");
            }
            Surveys.type(x, "l");
            Check.isThrown(Edge.REFUSED, x::commands);
            Check.is("8 " + ahead + " 7 0", Surveys.reason(x));
            Check.is(ahead, x.account(3));
        }
        Check.is(30, letters(30).account(3));
        CanalMaps y = letters(30);
        for (int index = 0; index < 29; index++) {
            Surveys.type(y, "l;");
        }
        Check.is(30, Surveys.carryOut(y, "l"));
    }

    /** Two surveyors with so many letters on their way. */
    private static CanalMaps letters(int count) {
        CanalMaps x = Surveys.of(2);
        for (int cost = 0; x.account(3) < count; cost++) {
            x.canal(0, 1, cost % 2 + 1);
        }
        Surveys.loseUntil(x, count);
        return x;
    }

    private static int commandsOf(CanalMaps x, String text) {
        return Surveys.carryOut(x, text);
    }

    @Sentence(of = 0, value = "The reason 8 has a cause, which is the reason for which the command is refused.")
    static void causes() {
        String[] texts = {"c01=0", "t0", "s0=3", "+;+;+;+", "c31=1", "x13", "s9=9", "c00=0", "x22", "c10=4", "s2=1",
            "x02", "l;l;l"};
        String[] due = {"8 0 1 0", "8 0 1 0", "8 0 1 0", "8 3 2 6", "8 0 3 3", "8 0 3 3", "8 0 3 9", "8 0 4 0",
            "8 0 4 2", "8 0 5 0", "8 0 5 0", "8 0 6 0", "8 2 7 0"};
        for (int place = 0; place < texts.length; place++) {
            String text = texts[place];
            Edge.isRefused(due[place], ReasonEdges::three, x -> commandsOf(x, text));
        }
        // no other reason has one
        CanalMaps x = three();
        Check.isThrown(Edge.NONE, () -> x.reason(true, false));
        Check.isThrown(Edge.REFUSED, () -> x.close(1, 2));
        Check.is(6, x.reason(false, false));
        Check.isThrown(Edge.NONE, () -> x.reason(true, false));
        Check.isThrown(Edge.NONE, () -> x.reason(true, true));
    }

    @Sentence(of = 0, value = "The reason is kept with its cause.")
    static void theReasonIsKept() {
        CanalMaps x = three();
        Check.is("none", Surveys.keptReason(x));
        Surveys.type(x, "t1;x09");
        Check.isThrown(Edge.REFUSED, x::commands);
        Check.is("8 1 3 9", Surveys.reason(x));
        // calls that succeed, and those that throw something else, leave it
        x.come();
        x.pass(1);
        Surveys.carryOut(x, "t1");
        x.undo();
        x.save();
        x.restore();
        Surveys.type(x, "x");
        Check.isThrown(Edge.BAD, x::commands);
        Check.isThrown(Edge.NO_INDEX, () -> x.cost(0, 9));
        Check.isThrown(Edge.BAD_STATE, x::undo);
        Check.is("8 1 3 9", Surveys.reason(x));
        // the next refused call takes its place, with its cause or without
        Surveys.type(x, "l;c00=1");
        Check.isThrown(Edge.REFUSED, x::commands);
        Check.is("8 0 7 0", Surveys.reason(x));
        Check.isThrown(Edge.REFUSED, () -> x.district(2, 1));
        Check.is("5 0", Surveys.reason(x));
    }

    // Changes

    @Sentence(of = 0, value = "What can be undone are the successful calls of come, canal, close, district, lose, pass and")
    static void whatCanBeUndone() {
        Edge.isChange(3, ReasonEdges::three, x -> x.come());
        Edge.isChange(4, ReasonEdges::three, x -> x.canal(0, 1, 5));
        Edge.isChange(0, ReasonEdges::three, x -> x.canal(0, 2, 5));
        Edge.isChange(4, ReasonEdges::three, x -> x.close(0, 1));
        Edge.isChange(1, ReasonEdges::three, x -> x.district(2, 0));
        Edge.isChange(0, ReasonEdges::three, x -> x.lose());
        Edge.isChange(0, ReasonEdges::three, x -> x.pass(99));
        Edge.isChange(1, ReasonEdges::three, x -> x.pass(1) + 1);
        Edge.isChange(1, ReasonEdges::three, x -> commandsOf(x, "t1"));
        Edge.isChange(4, ReasonEdges::three, x -> commandsOf(x, "l;t5;s0=2;+"));
        // what is refused, and all other calls, are none
        CanalMaps x = three();
        int undone = x.account(9);
        for (Runnable call : refusedCalls(x)) {
            Check.isThrown(Edge.REFUSED, call);
            Check.is(undone, x.account(9));
        }
        for (Runnable call : readingCalls(x)) {
            call.run();
            Check.is(undone, x.account(9));
        }
        Check.is(undone - 1, x.undo());
        Check.is(0, x.surveyorOf(2, 0));
    }

    private static List<Runnable> refusedCalls(CanalMaps x) {
        List<Runnable> calls = new ArrayList<>();
        calls.add(() -> x.canal(0, 1, 4));
        calls.add(() -> x.close(1, 2));
        calls.add(() -> x.district(0, 0));
        calls.add(() -> x.pass(0));
        calls.add(() -> commandsOf(x, "+;l;t0"));
        return calls;
    }

    private static List<Runnable> readingCalls(CanalMaps x) {
        List<Runnable> calls = new ArrayList<>();
        calls.add(() -> x.surveyorOf(0, 0));
        calls.add(() -> x.cost(0, 1));
        calls.add(() -> x.page(0, 0, 0));
        calls.add(() -> x.told(0, 0, 1));
        calls.add(() -> x.letter(0, 0));
        calls.add(() -> x.distance(0, 0));
        calls.add(() -> x.distanceAgain(0, 0));
        calls.add(() -> x.reached(0));
        calls.add(() -> x.follow(0, 0));
        calls.add(() -> x.real(0, 1));
        calls.add(() -> x.isRight(0));
        calls.add(() -> x.agree(0));
        calls.add(() -> x.agreeAgain(0));
        calls.add(x::settledIn);
        calls.add(() -> x.members(0));
        calls.add(() -> x.busiest(0));
        calls.add(() -> x.append('+'));
        calls.add(x::faultPosition);
        calls.add(() -> x.reason(false, false));
        calls.add(() -> x.line(0));
        calls.add(() -> x.character(0));
        calls.add(x::meanCost);
        calls.add(x::lostShare);
        calls.add(() -> x.account(0));
        calls.add(x::save);
        return calls;
    }

    /** After 1 to 20 changes the latest 8 of them are undone, and no more. */
    @Sentence(of = 0, value = "What there was before each of the latest 8 is kept; restore forgets it.")
    static void theLatestEight() {
        for (int changes = 0; changes <= 20; changes++) {
            CanalMaps x = new CanalMaps();
            for (int change = 1; change <= changes; change++) {
                x.pass(change);
                Check.is(Math.min(change, 8), x.account(9));
            }
            int tick = changes * (changes + 1) / 2;
            for (int left = Math.min(changes, 8) - 1; left >= 0; left--) {
                tick -= changes - (Math.min(changes, 8) - 1 - left);
                Check.is(left, x.undo());
                Check.is(tick, x.account(0));
            }
            Check.isThrown(Edge.BAD_STATE, x::undo);
            Check.is(tick, x.account(0));
        }
        // what was undone makes room: the places are used again
        CanalMaps y = new CanalMaps();
        for (int turn = 1; turn <= 5; turn++) {
            for (int change = 0; change < 7; change++) {
                y.pass(turn);
            }
            for (int change = 0; change < 5; change++) {
                y.undo();
            }
            Check.is(Math.min(2 * turn, 3), y.account(9));
        }
        Check.is(30, y.account(0));
    }

    @Sentence(of = 0, value = "What there was before each of the latest 8 is kept; restore forgets it.")
    static void restoreForgetsWhatThereWas() {
        CanalMaps x = new CanalMaps();
        x.save();
        for (int change = 0; change < 9; change++) {
            x.come();
            x.undo();
            x.pass(1);
        }
        Check.is(8, x.account(9));
        x.restore();
        Check.is(0, x.account(9));
        Check.isThrown(Edge.BAD_STATE, x::undo);
        x.come();
        Check.is(0, x.undo());
        Check.isThrown(Edge.BAD_STATE, x::undo);
        // a refused restore forgets nothing
        CanalMaps y = new CanalMaps();
        y.come();
        Check.isThrown(Edge.BAD_STATE, y::restore);
        Check.is(1, y.account(9));
        Check.is(0, y.undo());
    }

    @Sentence(of = 0, value = "The text buffer, the fault position, the reason and the line do not belong to it, and stay.")
    static void whatIsNotUndone() {
        CanalMaps x = three();
        x.save();
        x.come();
        Surveys.type(x, "l1");
        Check.isThrown(Edge.BAD, x::commands);
        Check.isThrown(Edge.REFUSED, () -> x.pass(0));
        x.line(0);
        Surveys.type(x, "+;+");
        for (int turn = 0; turn < 2; turn++) {
            if (turn == 0) {
                x.undo();
            } else {
                x.restore();
            }
            Check.is(3, x.account(10));
            Check.is(1, x.faultPosition());
            Check.is("1 0", Surveys.reason(x));
            Check.is("0:2,1=4", Surveys.written(x));
        }
        // the text that stayed is carried out, and its commands are undone, but the buffer does not come back
        Check.is(2, x.commands());
        Check.is(5, x.account(1));
        x.undo();
        Check.is(3, x.account(1));
        Check.is(0, x.account(10));
        Check.is(-1, x.faultPosition());
    }

    // Exceptions

    /** A survey with all that a call could change: a line, a text, a reason, a snapshot, changes to undo. */
    private static CanalMaps full() {
        CanalMaps x = Surveys.row(2);
        x.come();
        x.save();
        Surveys.type(x, "t1x");
        Check.isThrown(Edge.BAD, x::commands);
        x.district(2, 1);
        Check.isThrown(Edge.REFUSED, () -> x.close(0, 2));
        x.canal(0, 1, 7);
        Surveys.type(x, "l;t2;");
        x.line(1);
        return x;
    }

    @Sentence(of = 0, value = "A call that throws an exception leaves the state unchanged, unless stated otherwise.")
    static void callsThatThrow() {
        Edge.isRefused("3 3", ReasonEdges::full, x -> x.canal(0, 3, 1));
        Edge.isRefused("6 0", ReasonEdges::full, x -> x.close(0, 2));
        Edge.isRefused("1 0", ReasonEdges::full, x -> x.district(0, 3));
        Edge.isRefused("1 0", ReasonEdges::full, x -> x.pass(100));
        Edge.isThrown(Edge.NO_INDEX, ReasonEdges::full, x -> x.surveyorOf(3, 0));
        Edge.isThrown(Edge.BAD, ReasonEdges::full, x -> x.surveyorOf(0, 6));
        Edge.isThrown(Edge.NO_INDEX, ReasonEdges::full, x -> x.cost(0, 3));
        Edge.isThrown(Edge.NONE, ReasonEdges::full, x -> x.cost(0, 2));
        Edge.isThrown(Edge.BAD, ReasonEdges::full, x -> x.page(0, 0, 3));
        Edge.isThrown(Edge.NONE, ReasonEdges::full, x -> x.page(0, 2, 0));
        Edge.isThrown(Edge.NONE, ReasonEdges::full, x -> x.told(0, 0, 2));
        Edge.isThrown(Edge.NONE, ReasonEdges::full, x -> x.letter(2, 0));
        Edge.isThrown(Edge.BAD, ReasonEdges::full, x -> x.letter(0, 4));
        Edge.isThrown(Edge.NONE, ReasonEdges::full, x -> x.distance(0, 2));
        Edge.isThrown(Edge.NONE, ReasonEdges::full, x -> x.distanceAgain(0, 2));
        Edge.isThrown(Edge.NONE, ReasonEdges::full, x -> x.next(0, 0));
        Edge.isThrown(Edge.NO_INDEX, ReasonEdges::full, x -> x.reached(3));
        Edge.isThrown(Edge.NONE, ReasonEdges::full, x -> x.follow(0, 2));
        Edge.isThrown(Edge.NONE, ReasonEdges::full, x -> x.real(0, 2));
        Edge.isThrown(Edge.NO_INDEX, ReasonEdges::full, x -> x.isRight(3));
        Edge.isThrown(Edge.BAD, ReasonEdges::full, x -> x.agree(3));
        Edge.isThrown(Edge.BAD, ReasonEdges::full, x -> x.agreeAgain(3));
        Edge.isThrown(Edge.BAD, ReasonEdges::full, x -> x.members(3));
        Edge.isThrown(Edge.NONE, ReasonEdges::full, x -> x.busiest(3));
        Edge.isThrown(Edge.NO_INDEX, ReasonEdges::full, x -> x.line(3));
        Edge.isThrown(Edge.NO_INDEX, ReasonEdges::full, x -> x.character(15));
        Edge.isThrown(Edge.BAD, ReasonEdges::full, x -> x.account(11));
        // neither does it change what is kept to be undone and what is saved
        CanalMaps x = full();
        Check.isThrown(Edge.REFUSED, () -> x.pass(0));
        Check.isThrown(Edge.NONE, () -> x.follow(0, 2));
        x.undo();
        Check.is(1, x.cost(0, 1));
        x.undo();
        Check.is(0, x.surveyorOf(2, 0));
        Check.is(3, x.restore());
        Check.is(0, x.surveyorOf(2, 0));
    }

    @Sentence(of = 0, value = "If several conditions of a method are fulfilled, the one that is listed first determines the")
    static void theConditionThatIsListedFirst() {
        Edge.isThrown(Edge.NO_INDEX, ReasonEdges::full, x -> x.surveyorOf(3, 6));
        Edge.isThrown(Edge.NO_INDEX, ReasonEdges::full, x -> x.cost(3, 3));
        Edge.isThrown(Edge.NO_INDEX, ReasonEdges::full, x -> x.page(3, 0, 3));
        Edge.isThrown(Edge.NO_INDEX, ReasonEdges::full, x -> x.page(0, 3, 3));
        Edge.isThrown(Edge.BAD, ReasonEdges::full, x -> x.page(0, 2, 3));
        Edge.isThrown(Edge.NO_INDEX, ReasonEdges::full, x -> x.told(0, 2, 3));
        Edge.isThrown(Edge.BAD, ReasonEdges::full, x -> x.letter(2, 4));
        Edge.isThrown(Edge.BAD, ReasonEdges::full, x -> x.letter(-1, -1));
        Edge.isThrown(Edge.NO_INDEX, ReasonEdges::full, x -> x.distance(3, 3));
        Edge.isThrown(Edge.NO_INDEX, ReasonEdges::full, x -> x.distanceAgain(3, 3));
        Edge.isThrown(Edge.NO_INDEX, ReasonEdges::full, x -> x.next(3, 3));
        Edge.isThrown(Edge.NO_INDEX, ReasonEdges::full, x -> x.follow(3, 3));
        Edge.isThrown(Edge.NO_INDEX, ReasonEdges::full, x -> x.real(3, 3));
        // a text that has a fault and a command that would be refused
        CanalMaps x = three();
        Surveys.type(x, "t0;l;x");
        Check.isThrown(Edge.BAD, x::commands);
        Check.is(6, x.faultPosition());
        Check.is("none", Surveys.keptReason(x));
    }
}
