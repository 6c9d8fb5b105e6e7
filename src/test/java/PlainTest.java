import java.util.function.Supplier;

/** Runs of calls chosen by a fixed row of numbers: the class must answer as the plain second program. */
public final class PlainTest {
    private static final int RUNS = 1500;
    private static final int CALLS = 512;
    private static final int[] WILD = {-1, 6, 7, 8, 99, 100, 64, 1 << 20, Integer.MIN_VALUE, Integer.MAX_VALUE};
    private static final String[] TEXTS = {
        "+", "c01=4", "c12=3", "c23=2", "c34=1", "c45=9", "c50=5", "c02=7", "c13=6", "x01", "x23", "x50",
        "s1=1", "s1=0", "s4=2", "s4=0", "l", "t1", "t2", "t11", "t3", "c99=1", "x77", "s9=9", "t0",
    };

    private long seed;
    private CanalMaps x;
    private PlainMaps y;
    private StringBuilder calls;
    private final int[] answered = new int[64];
    private final int[] threw = new int[64];

    public static void main(String[] args) {
        PlainTest test = new PlainTest();
        int runs = args.length > 0 ? Integer.parseInt(args[0]) : RUNS;
        for (int run = 0; run < runs; run++) {
            Check.in("run " + run);
            if (!test.run(run)) {
                break;
            }
        }
        test.checkThatAllWasTried();
        Check.end();
    }

    private int number(int bound) {
        seed = seed * 6364136223846793005L + 1442695040888963407L;
        return (int) ((seed >>> 33) % bound);
    }

    /** Mostly one that there is. */
    private int surveyor() {
        return number(25) == 0 ? WILD[number(WILD.length)] : number(6);
    }

    private int upTo(int most) {
        return number(25) == 0 ? WILD[number(WILD.length)] : number(most + 1);
    }

    private boolean run(int run) {
        seed = run * 7919L + 17;
        x = new CanalMaps();
        y = new PlainMaps();
        calls = new StringBuilder();
        int kind = run % 4;
        for (int call = 0; call < CALLS; call++) {
            int which = call < 12 ? (call % 2 == 0 ? 0 : 1) : kind == 3 ? number(34) : number(2) == 0 ? number(7)
                    : number(34);
            if (!call(which, kind)) {
                return false;
            }
        }
        return true;
    }

    private boolean same(String call, int which, Supplier<Object> one, Supplier<Object> other) {
        calls.append(call).append("; ");
        Object due = answer(other);
        Object got = answer(() -> withWrittenThrows(one));
        (due instanceof Class ? threw : answered)[which]++;
        if (!due.equals(got)) {
            Check.fail(calls + " answered " + got + ", due is " + due);
            return false;
        }
        return true;
    }

    private static Object withWrittenThrows(Supplier<Object> call) {
        try {
            return call.get();
        } catch (RuntimeException thrown) {
            Check.isWritten(thrown);
            throw thrown;
        }
    }

    private static Object answer(Supplier<Object> call) {
        try {
            return call.get();
        } catch (RuntimeException thrown) {
            return thrown.getClass();
        }
    }

    private boolean call(int which, int kind) {
        return which < 7 ? change(which, kind) : which < 20 ? look(which) : other(which);
    }

    private boolean change(int which, int kind) {
        int a = surveyor();
        int b = surveyor();
        int c = number(20) == 0 ? WILD[number(WILD.length)] : number(9) + 1;
        int d = number(20) == 0 ? WILD[number(WILD.length)] : number(kind == 1 ? 2 : 3);
        int ticks = number(20) == 0 ? WILD[number(WILD.length)] : number(kind == 2 ? 15 : 4) + 1;
        switch (which) {
            case 0: return same("come", which, () -> x.come(), () -> y.come());
            case 1: return same("canal " + a + " " + b + " " + c, which, () -> x.canal(a, b, c), () -> y.canal(a, b, c));
            case 2: return same("close " + a + " " + b, which, () -> x.close(a, b), () -> y.close(a, b));
            case 3: return kind == 0 || same("district " + a + " " + d, which, () -> x.district(a, d),
                    () -> y.district(a, d));
            case 4: return same("lose", which, () -> x.lose(), () -> y.lose());
            case 5: return same("pass " + ticks, which, () -> x.pass(ticks), () -> y.pass(ticks));
            default: return number(2) == 0
                    ? same("canal " + a + " " + b + " " + c, which, () -> x.canal(a, b, c), () -> y.canal(a, b, c))
                    : text();
        }
    }

    private boolean text() {
        int many = number(12) == 0 ? 16 : number(5) + 1;
        StringBuilder text = new StringBuilder();
        for (int index = 0; index < many; index++) {
            text.append(index > 0 ? ";" : "").append(TEXTS[number(TEXTS.length - (number(3) == 0 ? 0 : 4))]);
        }
        if (number(4) == 0) {
            text.insert(number(text.length() + 1), "+;cxslt=0129 \u00e9".charAt(number(14)));
        }
        boolean isSame = true;
        for (int index = 0; index < text.length(); index++) {
            char sign = text.charAt(index);
            isSame &= same("append " + sign, 20, () -> (int) x.append(sign), () -> (int) y.append(sign));
        }
        return isSame && same("commands", 21, () -> x.commands(), () -> y.commands());
    }

    private boolean look(int which) {
        int a = surveyor();
        int b = surveyor();
        int c = surveyor();
        int what = upTo(5);
        int place = upTo(3);
        switch (which) {
            case 7: return same("surveyorOf " + a + " " + what, which, () -> x.surveyorOf(a, what),
                    () -> y.surveyorOf(a, what));
            case 8: return same("cost " + a + " " + b, which, () -> x.cost(a, b), () -> y.cost(a, b));
            case 9: return same("page " + a + " " + b + " " + place, which, () -> x.page(a, b, place),
                    () -> y.page(a, b, place));
            case 10: return same("told " + a + " " + b + " " + c, which, () -> x.told(a, b, c), () -> y.told(a, b, c));
            case 11: return same("letter " + what + " " + place, which, () -> x.letter(what, place),
                    () -> y.letter(what, place));
            case 12: return same("distance " + a + " " + b, which, () -> x.distance(a, b), () -> y.distance(a, b));
            case 13: return same("distanceAgain " + a + " " + b, which, () -> x.distanceAgain(a, b),
                    () -> y.distanceAgain(a, b));
            case 14: return same("next " + a + " " + b, which, () -> x.next(a, b), () -> y.next(a, b));
            case 15: return same("reached " + a, which, () -> x.reached(a), () -> y.reached(a));
            case 16: return same("follow " + a + " " + b, which, () -> x.follow(a, b), () -> y.follow(a, b));
            case 17: return same("real " + a + " " + b, which, () -> x.real(a, b), () -> y.real(a, b));
            case 18: return same("isRight " + a, which, () -> x.isRight(a), () -> y.isRight(a));
            default: return same("busiest " + a, which, () -> x.busiest(a), () -> y.busiest(a));
        }
    }

    private boolean other(int which) {
        int a = surveyor();
        int d = upTo(2);
        int what = upTo(10);
        int index = upTo(40);
        boolean isCause = number(2) == 0;
        boolean isDetail = number(2) == 0;
        switch (which) {
            case 20: return same("append +", which, () -> x.append('+'), () -> y.append('+'));
            case 21: return same("commands", which, () -> x.commands(), () -> y.commands());
            case 22: return same("agree " + d, which, () -> x.agree(d), () -> y.agree(d));
            case 23: return same("agreeAgain " + d, which, () -> x.agreeAgain(d), () -> y.agreeAgain(d));
            case 24: return same("settledIn", which, () -> x.settledIn(), () -> y.settledIn());
            case 25: return same("members " + d, which, () -> x.members(d), () -> y.members(d));
            case 26: return same("faultPosition", which, () -> x.faultPosition(), () -> y.faultPosition());
            case 27: return same("reason " + isCause + " " + isDetail, which, () -> x.reason(isCause, isDetail),
                    () -> y.reason(isCause, isDetail));
            case 28: return same("line " + a, which, () -> x.line(a), () -> y.line(a));
            case 29: return same("character " + index, which, () -> (int) x.character(index),
                    () -> (int) y.character(index));
            case 30: return same("meanCost", which, () -> x.meanCost(), () -> y.meanCost())
                    && same("lostShare", which, () -> x.lostShare(), () -> y.lostShare());
            case 31: return same("account " + what, which, () -> x.account(what), () -> y.account(what));
            case 32: return same("undo", which, () -> x.undo(), () -> y.undo());
            default: return number(3) == 0 ? same("restore", which, () -> x.restore(), () -> y.restore())
                    : same("save", which, () -> x.save(), () -> y.save());
        }
    }

    /** A test of calls that are all refused, or never, would be worth little. */
    private void checkThatAllWasTried() {
        for (int which = 0; which < 34; which++) {
            Check.isTrue(answered[which] >= 50, "call " + which + " answered " + answered[which] + " times");
            Check.isTrue(which == 6 || which == 26 || threw[which] >= 20, "call " + which + " threw " + threw[which]);
        }
    }
}
