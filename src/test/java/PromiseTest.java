import java.lang.reflect.InvocationTargetException;
import java.lang.reflect.Method;
import java.util.NoSuchElementException;

/** For each promise of the document what it says of ordinary inputs, edges and wrong inputs. */
public final class PromiseTest {
    private static final Class<UnsupportedOperationException> REFUSED = UnsupportedOperationException.class;
    private static final Class<IndexOutOfBoundsException> NO_INDEX = IndexOutOfBoundsException.class;
    private static final Class<IllegalArgumentException> BAD = IllegalArgumentException.class;
    private static final Class<IllegalStateException> BAD_STATE = IllegalStateException.class;
    private static final Class<NoSuchElementException> NONE = NoSuchElementException.class;
    private static final Class<ArithmeticException> NO_NUMBER = ArithmeticException.class;

    private static final int[] NO_SURVEYORS = {-1, 3, 6, 7, 100, Integer.MIN_VALUE, Integer.MAX_VALUE};

    public static void main(String[] args) throws Exception {
        for (int number = 1; number <= 36; number++) {
            Check.in("promise " + number);
            Method test = PromiseTest.class.getDeclaredMethod("promise" + number);
            try {
                test.invoke(null);
            } catch (InvocationTargetException thrown) {
                thrown.getCause().printStackTrace(System.out);
                Check.fail("threw " + thrown.getCause());
            }
        }
        Check.end();
    }

    private static void isRefused(CanalMaps x, String reason, Runnable call) {
        String before = Surveys.state(x);
        int undone = x.account(9);
        Check.isThrown(REFUSED, call);
        Check.is(reason, Surveys.reason(x));
        Check.is(before, Surveys.state(x));
        Check.is(undone, x.account(9));
    }

    // A new object

    static void promise1() {
        CanalMaps x = new CanalMaps();
        for (int what = 0; what <= 10; what++) {
            Check.is(0, x.account(what));
        }
        for (int district = 0; district <= 2; district++) {
            Check.is(0, x.members(district));
            Check.is(true, x.agree(district));
            Check.is(true, x.agreeAgain(district));
        }
        Check.is(0, x.settledIn());
        Check.is(-1, x.faultPosition());
        Check.isThrown(NO_INDEX, () -> x.surveyorOf(0, 0));
        Check.isThrown(NO_INDEX, () -> x.character(0));
        Check.isThrown(NONE, () -> x.busiest(0));
        Check.isThrown(NONE, () -> x.reason(false, false));
        Check.isThrown(BAD_STATE, x::undo);
        Check.isThrown(BAD_STATE, x::restore);
        Check.is(0, x.save());
        new CanalMaps().come();
        Check.is(0, x.account(1));
    }

    // Changes

    static void promise2() {
        CanalMaps x = new CanalMaps();
        Check.is(0, x.come());
        x.pass(3);
        for (int surveyor = 1; surveyor < 6; surveyor++) {
            Check.is(surveyor, x.come());
            Check.is(0, x.surveyorOf(surveyor, 0));
            Check.is("" + surveyor + ":1", Surveys.line(x, surveyor));
            Check.is(0, x.page(surveyor, surveyor, 1));
        }
        Check.is(3, x.page(0, 0, 1));
        Check.is("3 6 0 0 0 0 0 6 6", Surveys.accounts(x));
        isRefused(x, "2 6", x::come);
    }

    static void promise3() {
        CanalMaps x = Surveys.of(3);
        Check.is(0, x.canal(1, 0, 5));
        Check.is("0>1:0.2 1>0:1.2", Surveys.letters(x));
        Check.is("0:2,1=5", Surveys.line(x, 0));
        Check.is("1:2,0=5", Surveys.line(x, 1));
        Check.is(0, x.canal(1, 2, 9));
        Check.is(5, x.canal(0, 1, 1));
        Check.is("0>1:0.2 1>0:1.2 1>0:1.3 1>2:1.3 2>1:2.2 0>1:0.3 1>0:1.4 1>2:1.4", Surveys.letters(x));
        Check.is(9, x.cost(2, 1));
        Check.is("0 3 2 8 8 0 0 9 3", Surveys.accounts(x));
        for (int bad : NO_SURVEYORS) {
            isRefused(x, "3 " + bad, () -> x.canal(bad, 8, 0));
            isRefused(x, "3 " + bad, () -> x.canal(0, bad, 0));
        }
        isRefused(x, "3 8", () -> x.canal(8, 8, 1));
        isRefused(x, "4 2", () -> x.canal(2, 2, 0));
        for (int bad : new int[] {0, 10, -1, -9, Integer.MIN_VALUE, Integer.MAX_VALUE}) {
            isRefused(x, "1 0", () -> x.canal(0, 1, bad));
        }
        isRefused(x, "5 0", () -> x.canal(0, 1, 1));
        isRefused(x, "5 0", () -> x.canal(1, 0, 1));
        x.district(2, 1);
        x.pass(2);
        String lines = Surveys.line(x, 1) + Surveys.line(x, 2);
        Check.is(9, x.canal(1, 2, 3));
        Check.is(0, x.canal(2, 0, 3));
        Check.is(lines, Surveys.line(x, 1) + Surveys.line(x, 2));
        Check.is("", Surveys.letters(x));
        Check.is(3, x.cost(2, 1));
    }

    static void promise4() {
        CanalMaps x = Surveys.row(3);
        Check.is("1:3,0=1,2=1", Surveys.line(x, 1).substring(8, 19));
        Check.is(1, x.close(1, 0));
        Check.is("1>2:1.4", Surveys.letters(x));
        Check.is("0:3", Surveys.line(x, 0).substring(0, 3));
        Check.is("1:4,2=1", Surveys.line(x, 1).substring(8, 15));
        Check.is(1, x.account(2));
        Check.isThrown(NONE, () -> x.cost(0, 1));
        for (int bad : NO_SURVEYORS) {
            isRefused(x, "3 " + bad, () -> x.close(bad, 8));
            isRefused(x, "3 " + bad, () -> x.close(0, bad));
        }
        isRefused(x, "4 1", () -> x.close(1, 1));
        isRefused(x, "6 0", () -> x.close(0, 1));
        isRefused(x, "6 0", () -> x.close(2, 0));
        x.district(1, 2);
        String pages = Surveys.line(x, 1) + Surveys.line(x, 2);
        Check.is(1, x.close(2, 1));
        Check.is(pages, Surveys.line(x, 1) + Surveys.line(x, 2));
        Check.is(0, x.account(2));
    }

    static void promise5() {
        CanalMaps x = Surveys.of(5);
        x.canal(0, 1, 1);
        x.canal(1, 2, 2);
        x.canal(2, 3, 3);
        Surveys.settle(x);
        Check.is("0:2,1=1 1:3,0=1,2=2 2:3,1=2,3=3 3:2,2=3", Surveys.line(x, 1));
        x.canal(2, 3, 4);
        x.canal(0, 1, 5);
        Check.is("2>1:2.4 2>3:2.4 3>2:3.3 0>1:0.3 1>0:1.4 1>2:1.4", Surveys.letters(x));
        Check.is(0, x.district(1, 2));
        Check.is("2>3:2.4 3>2:3.3 2>3:2.5", Surveys.letters(x));
        Check.is(4, x.account(6));
        Check.is("1:5", Surveys.line(x, 1));
        Check.is("0:4", Surveys.line(x, 0).substring(0, 3));
        Check.is("0:2,1=1 1:3,0=1,2=2 2:5,3=4 3:2,2=3", Surveys.line(x, 2));
        Check.is(3, x.surveyorOf(3, 1));
        // two ends in another district renew their pages too, and the neighbours are those of the new district
        x.canal(1, 4, 9);
        Check.is(1, x.surveyorOf(4, 1));
        Check.is(0, x.district(0, 2));
        Check.is("1:6,0=5", Surveys.line(x, 1));
        Check.is("0:5,1=5", Surveys.line(x, 0));
        Check.is("2>3:2.4 3>2:3.3 2>3:2.5 0>1:0.5 1>0:1.6", Surveys.letters(x));
        Check.is(1, x.surveyorOf(4, 1));
        Check.is(2, x.district(1, 1));
        Check.is(2, x.surveyorOf(4, 1));
        Check.is(6, x.surveyorOf(0, 1));
        Check.is(6, x.surveyorOf(2, 1));
        Check.is("2>3:2.4 3>2:3.3 2>3:2.5 2>3:2.6", Surveys.letters(x));
        Check.is(1, x.district(1, 0));
        Check.is("2>3:2.4 3>2:3.3 2>3:2.5 2>3:2.6 1>2:1.8 1>4:1.8 2>1:2.7 2>3:2.7 4>1:4.3", Surveys.letters(x));
        for (int bad : new int[] {-1, 5, 6, Integer.MIN_VALUE, Integer.MAX_VALUE}) {
            isRefused(x, "3 " + bad, () -> x.district(bad, 3));
        }
        for (int bad : new int[] {-1, 3, Integer.MIN_VALUE, Integer.MAX_VALUE}) {
            isRefused(x, "1 0", () -> x.district(0, bad));
        }
        isRefused(x, "5 0", () -> x.district(0, 2));
    }

    static void promise6() {
        CanalMaps x = Surveys.of(2);
        isRefused(x, "7 0", x::lose);
        x.canal(0, 1, 4);
        x.canal(0, 1, 5);
        Check.is(0, x.lose());
        Check.is("1>0:1.2 0>1:0.3 1>0:1.3", Surveys.letters(x));
        Check.is(1, x.lose());
        Check.is(2, x.account(6));
        Check.is(4, x.account(4));
        Check.is(0, x.pass(1));
        Check.is(2, x.account(5));
        // whose page it has, and not who sent it
        CanalMaps y = Surveys.of(3);
        y.canal(0, 1, 1);
        y.canal(1, 2, 1);
        y.pass(1);
        Check.is("1>2:0.2 1>0:2.2", Surveys.letters(y));
        Check.is(0, y.lose());
        Check.is(2, y.lose());
        isRefused(y, "7 0", y::lose);
    }

    static void promise7() {
        letterByLetter();
        pagesByAge();
        lettersLostOnArrival();
        olderPagesAreAnswered();
        oldPagesArrive();
        CanalMaps x = Surveys.of(1);
        for (int bad : new int[] {0, -1, 100, Integer.MIN_VALUE, Integer.MAX_VALUE}) {
            isRefused(x, "1 0", () -> x.pass(bad));
        }
        Check.is(0, x.pass(99));
        Check.is(99, x.account(0));
        Check.is(9, x.page(0, 0, 1));
        Check.is(10, x.page(0, 0, 0));
        Check.is(0, x.pass(1));
        Check.is(11, x.page(0, 0, 0));
    }

    /** A ring of three: pages go on to all neighbours but the sender, to the one whose page it is too. */
    private static void letterByLetter() {
        CanalMaps x = Surveys.of(4);
        x.canal(0, 1, 1);
        x.canal(1, 2, 1);
        x.canal(2, 3, 1);
        x.canal(1, 3, 1);
        x.pass(5);
        Check.is(1, x.canal(0, 1, 2));
        Check.is("0>1:0.3 1>0:1.5 1>2:1.5 1>3:1.5", Surveys.letters(x));
        Check.is(4, x.pass(1));
        Check.is("1>2:0.3 1>3:0.3 2>3:1.5 3>2:1.5", Surveys.letters(x));
        Check.is(1, x.page(3, 1, 1));
        Check.is(2, x.pass(1));
        Check.is("2>3:0.3 3>2:0.3", Surveys.letters(x));
        Check.is(0, x.pass(1));
        CanalMaps y = Surveys.of(3);
        y.canal(0, 1, 1);
        y.canal(0, 2, 1);
        y.canal(1, 2, 1);
        Surveys.loseUntil(y, 1);
        Check.is("2>1:2.3", Surveys.letters(y));
        Check.is(1, y.pass(1));
        Check.is("1>0:2.3", Surveys.letters(y));
        Check.is(1, y.pass(1));
        Check.is("0>2:2.3", Surveys.letters(y));
        Check.is(3, y.surveyorOf(2, 1));
        Check.is(0, y.pass(1));
        Check.is(3, y.account(5));
        // an older page of the receiver itself is not answered either
        y.canal(1, 2, 5);
        y.canal(1, 2, 6);
        Surveys.loseUntil(y, 8);
        String lines = Surveys.line(y, 2);
        y.pass(2);
        Check.is(true, Surveys.line(y, 2).endsWith(lines.substring(lines.indexOf("2:"))));
    }

    /** Pages are renewed with an age of 10, and forgotten with one of 20. */
    private static void pagesByAge() {
        CanalMaps x = Surveys.row(2);
        x.pass(8);
        Check.is(9, x.page(0, 0, 1));
        Check.is(9, x.page(0, 1, 1));
        Check.is(2, x.pass(1));
        Check.is("0>1:0.3 1>0:1.3", Surveys.letters(x));
        Check.is(10, x.account(0));
        Check.is(0, x.page(0, 0, 1));
        Check.is(10, x.page(0, 1, 1));
        Check.is(2, x.page(0, 1, 0));
        x.lose();
        x.lose();
        x.pass(9);
        Check.is(19, x.page(0, 1, 1));
        Check.is(2, x.pass(1));
        Check.isThrown(NONE, () -> x.page(0, 1, 0));
        Check.is("0:4,1=1", Surveys.line(x, 0));
        x.pass(1);
        Check.is("0:4,1=1 1:4,0=1", Surveys.line(x, 0));
        Check.is(1, x.page(0, 1, 1));
        // the lowest one renews its page first, with what it forgot before
        CanalMaps y = Surveys.of(3);
        y.canal(2, 0, 1);
        y.canal(1, 0, 1);
        y.pass(9);
        Check.is(4, y.pass(1));
        Check.is("0>1:0.4 0>2:0.4 1>0:1.3 2>0:2.3", Surveys.letters(y));
    }

    private static void lettersLostOnArrival() {
        CanalMaps x = Surveys.of(3);
        x.canal(0, 1, 1);
        x.canal(1, 2, 1);
        x.close(0, 1);
        Check.is("0>1:0.2 1>0:1.2 1>0:1.3 1>2:1.3 2>1:2.2 1>2:1.4", Surveys.letters(x));
        Check.is(0, x.pass(1));
        Check.is(3, x.account(6));
        Check.is(3, x.account(5));
        Check.is("0:3", Surveys.line(x, 0));
        // what is a canal again as the letter arrives does no harm
        x.close(1, 2);
        x.canal(1, 2, 3);
        x.close(1, 2);
        x.canal(1, 2, 4);
        x.pass(1);
        Check.is(3, x.account(6));
        Check.is(7, x.account(5));
    }

    /** In a ring an older page comes later by the longer way, and is answered with the newer one. */
    private static void olderPagesAreAnswered() {
        CanalMaps x = Surveys.row(4);
        x.pass(1);
        x.canal(0, 1, 2);
        x.pass(2);
        Check.is("2>3:0.3", Surveys.letters(x));
        x.canal(0, 3, 5);
        Check.is("2>3:0.3 0>1:0.4 0>3:0.4 3>0:3.3 3>2:3.3", Surveys.letters(x));
        x.lose();
        x.lose();
        x.pass(1);
        Check.is("3>2:0.4 0>1:3.3 2>1:3.3", Surveys.letters(x));
        x.canal(0, 1, 3);
        Check.is(3, x.page(2, 0, 0));
        Check.is("3>2:0.4 0>1:3.3 2>1:3.3 0>1:0.5 0>3:0.5 1>0:1.5 1>2:1.5", Surveys.letters(x));
        x.pass(1);
        Check.is("2>1:0.4 1>2:3.3 1>2:0.5 3>2:0.5 0>3:1.5 2>3:1.5", Surveys.letters(x));
        Check.is(5, x.page(1, 0, 0));
        x.pass(1);
        // 1 answered 0.4 with 0.5; what was the same as it arrived, as 3.3 and twice 0.5 and 1.5, went nowhere
        Check.is("1>2:0.5 2>3:0.5 3>2:1.5", Surveys.letters(x));
        Surveys.settle(x);
        Check.is(true, x.agree(0));
    }

    /** Three take a page round, as the one whom it will reach next but one always forgets. */
    private static void oldPagesArrive() {
        CanalMaps x = Surveys.of(4);
        x.canal(0, 1, 1);
        x.canal(1, 2, 1);
        x.canal(2, 0, 1);
        x.canal(0, 3, 1);
        Surveys.settle(x);
        x.close(0, 3);
        x.canal(0, 3, 2);
        Surveys.loseUntil(x, 0);
        x.canal(0, 3, 3);
        keepLetter(x, 3, x.surveyorOf(3, 1), 0);
        int serial = x.surveyorOf(3, 1);
        x.close(1, 2);
        x.close(0, 2);
        x.district(1, 1);
        x.district(1, 0);
        x.canal(1, 2, 1);
        x.canal(0, 2, 1);
        x.pass(1);
        Check.is(serial, x.page(0, 3, 0));
        x.close(0, 3);
        int at = 1;
        for (int tick = 2; tick <= 23; tick++) {
            // now the page is on its way from the one before at to at; let the one behind it forget
            int behind = (at + 1) % 3;
            keepLetter(x, 3, serial, at);
            x.district(behind, 1);
            x.district(behind, 0);
            keepLetter(x, 3, serial, at);
            x.pass(1);
            Check.is(serial, x.page(at, 3, 0));
            Check.is(tick, x.page(at, 3, 1));
            at = behind;
        }
        int last = (at + 2) % 3;
        Surveys.loseUntil(x, 0);
        Check.is(23, x.page(last, 3, 1));
        x.pass(1);
        Check.isThrown(NONE, () -> x.page(last, 3, 1));
    }

    /** Lets the page go on to one surveyor only: all other letters are lost. */
    private static void keepLetter(CanalMaps x, int origin, int serial, int receiver) {
        for (int turn = x.account(3); turn > 0; turn--) {
            boolean isWanted = x.letter(0, 2) == origin && x.letter(0, 3) == serial && x.letter(0, 1) == receiver;
            if (isWanted) {
                return;
            }
            x.lose();
        }
        Check.fail("the letter is gone");
    }

    // Surveyors, canals, pages and letters

    static void promise8() {
        CanalMaps x = Surveys.of(4);
        x.canal(0, 1, 5);
        x.canal(0, 2, 6);
        x.canal(0, 3, 7);
        Surveys.settle(x);
        x.district(2, 1);
        x.canal(0, 1, 2);
        int[] due = {0, 6, 2, 3, 4, 1};
        for (int what = 0; what < due.length; what++) {
            Check.is(due[what], x.surveyorOf(0, what));
        }
        Check.is(1, x.surveyorOf(2, 0));
        Check.is(0, x.surveyorOf(2, 2));
        Check.is(1, x.surveyorOf(2, 3));
        Check.is(1, x.surveyorOf(2, 4));
        Check.is(0, x.surveyorOf(2, 5));
        Check.is(2, x.surveyorOf(3, 5));
        Check.is("0>1", Surveys.letters(x).substring(0, 3));
        Check.is(2, x.surveyorOf(1, 5));
        for (int bad : new int[] {-1, 4, 6, Integer.MIN_VALUE, Integer.MAX_VALUE}) {
            Check.isThrown(NO_INDEX, () -> x.surveyorOf(bad, 9));
        }
        for (int bad : new int[] {-1, 6, Integer.MIN_VALUE, Integer.MAX_VALUE}) {
            Check.isThrown(BAD, () -> x.surveyorOf(3, bad));
        }
    }

    static void promise9() {
        CanalMaps x = Surveys.of(3);
        x.canal(0, 1, 9);
        x.district(1, 1);
        Check.is(9, x.cost(0, 1));
        Check.is(9, x.cost(1, 0));
        Check.isThrown(NONE, () -> x.cost(0, 2));
        Check.isThrown(NONE, () -> x.cost(1, 1));
        for (int bad : NO_SURVEYORS) {
            Check.isThrown(NO_INDEX, () -> x.cost(bad, 0));
            Check.isThrown(NO_INDEX, () -> x.cost(0, bad));
        }
    }

    static void promise10() {
        CanalMaps x = Surveys.row(3);
        x.pass(3);
        Check.is(3, x.page(0, 1, 0));
        Check.is(5, x.page(0, 1, 1));
        Check.is(2, x.page(0, 1, 2));
        Check.is(1, x.page(2, 2, 2));
        x.district(0, 1);
        Check.is(3, x.page(0, 0, 0));
        Check.is(0, x.page(0, 0, 1));
        Check.is(0, x.page(0, 0, 2));
        for (int what = 0; what <= 2; what++) {
            int asked = what;
            Check.isThrown(NONE, () -> x.page(0, 1, asked));
        }
        for (int bad : NO_SURVEYORS) {
            Check.isThrown(NO_INDEX, () -> x.page(bad, 0, 9));
            Check.isThrown(NO_INDEX, () -> x.page(0, bad, 9));
        }
        for (int bad : new int[] {-1, 3, Integer.MIN_VALUE, Integer.MAX_VALUE}) {
            Check.isThrown(BAD, () -> x.page(0, 1, bad));
            Check.isThrown(BAD, () -> x.page(0, 0, bad));
        }
    }

    static void promise11() {
        CanalMaps x = Surveys.of(3);
        x.canal(0, 1, 4);
        x.canal(1, 2, 6);
        x.pass(1);
        Check.is(4, x.told(0, 1, 0));
        Check.is(6, x.told(0, 1, 2));
        Check.isThrown(NONE, () -> x.told(0, 1, 1));
        Check.isThrown(NONE, () -> x.told(0, 0, 2));
        Check.isThrown(NONE, () -> x.told(0, 2, 1));
        x.canal(0, 1, 8);
        Check.is(8, x.told(0, 0, 1));
        Check.is(4, x.told(0, 1, 0));
        for (int bad : NO_SURVEYORS) {
            Check.isThrown(NO_INDEX, () -> x.told(bad, 0, 0));
            Check.isThrown(NO_INDEX, () -> x.told(0, bad, 0));
            Check.isThrown(NO_INDEX, () -> x.told(0, 2, bad));
        }
    }

    static void promise12() {
        CanalMaps x = Surveys.of(3);
        x.canal(0, 1, 4);
        x.canal(1, 2, 6);
        x.pass(1);
        Check.is("1>2:0.2 1>0:2.2", Surveys.letters(x));
        Check.is(1, x.letter(1, 0));
        Check.is(0, x.letter(1, 1));
        Check.is(2, x.letter(1, 2));
        Check.is(2, x.letter(1, 3));
        for (int bad : new int[] {-1, 2, 3, 64, Integer.MIN_VALUE, Integer.MAX_VALUE}) {
            Check.isThrown(NONE, () -> x.letter(bad, 0));
            Check.isThrown(NONE, () -> x.letter(bad, 3));
        }
        for (int bad : new int[] {-1, 4, Integer.MIN_VALUE, Integer.MAX_VALUE}) {
            Check.isThrown(BAD, () -> x.letter(0, bad));
            Check.isThrown(BAD, () -> x.letter(99, bad));
        }
    }

    // Ways

    private interface Way {
        int of(CanalMaps x, int surveyor, int to);
    }

    static void promise13() {
        distances(CanalMaps::distance);
    }

    static void promise14() {
        distances(CanalMaps::distanceAgain);
    }

    private static void distances(Way way) {
        CanalMaps x = Surveys.of(6);
        x.canal(0, 1, 9);
        x.canal(0, 2, 1);
        x.canal(2, 3, 2);
        x.canal(3, 1, 3);
        x.canal(1, 4, 5);
        Check.is(0, way.of(x, 0, 0));
        Check.isThrown(NONE, () -> way.of(x, 0, 1));
        Surveys.settle(x);
        int[] due = {0, 6, 1, 3, 11};
        for (int to = 0; to < due.length; to++) {
            Check.is(due[to], way.of(x, 0, to));
            Check.is(due[to], way.of(x, to, 0));
        }
        Check.isThrown(NONE, () -> way.of(x, 0, 5));
        Check.is(0, way.of(x, 5, 5));
        // an end tells what it costs from it, and both ends must tell a cost
        x.canal(0, 2, 8);
        Surveys.loseUntil(x, 0);
        Check.is(9, way.of(x, 0, 1));
        Check.is(8, way.of(x, 0, 2));
        Check.is(8, way.of(x, 2, 0));
        Check.is(6, way.of(x, 1, 0));
        x.close(2, 3);
        Surveys.loseUntil(x, 0);
        Check.is(3, way.of(x, 1, 3));
        Check.is(3, way.of(x, 3, 1));
        Check.isThrown(NONE, () -> way.of(x, 5, 3));
        Check.is(17, way.of(x, 2, 1));
        Check.is(10, way.of(x, 0, 3));
        for (int bad : new int[] {-1, 6, 7, Integer.MIN_VALUE, Integer.MAX_VALUE}) {
            Check.isThrown(NO_INDEX, () -> way.of(x, bad, 0));
            Check.isThrown(NO_INDEX, () -> way.of(x, 0, bad));
        }
        CanalMaps y = Surveys.of(2);
        Check.isThrown(NO_INDEX, () -> way.of(y, 2, 2));
    }

    static void promise15() {
        CanalMaps x = Surveys.of(6);
        x.canal(0, 3, 2);
        x.canal(0, 2, 1);
        x.canal(2, 4, 2);
        x.canal(3, 4, 1);
        x.canal(0, 4, 4);
        x.canal(0, 1, 9);
        x.canal(1, 4, 1);
        Check.isThrown(NONE, () -> x.next(0, 4));
        Surveys.settle(x);
        Check.is(2, x.next(0, 4));
        Check.is(2, x.next(0, 1));
        Check.is(4, x.next(3, 1));
        Check.is(2, x.next(4, 0));
        Check.is(3, x.next(0, 3));
        x.close(2, 4);
        Surveys.settle(x);
        Check.is(3, x.next(0, 4));
        x.canal(3, 4, 2);
        Surveys.settle(x);
        Check.is(3, x.next(0, 4));
        x.canal(3, 4, 3);
        Surveys.settle(x);
        Check.is(4, x.next(0, 4));
        Check.isThrown(NONE, () -> x.next(0, 0));
        Check.isThrown(NONE, () -> x.next(0, 5));
        for (int bad : new int[] {-1, 6, 7, Integer.MIN_VALUE, Integer.MAX_VALUE}) {
            Check.isThrown(NO_INDEX, () -> x.next(bad, bad));
            Check.isThrown(NO_INDEX, () -> x.next(bad, 0));
            Check.isThrown(NO_INDEX, () -> x.next(0, bad));
        }
    }

    static void promise16() {
        CanalMaps x = Surveys.of(6);
        x.canal(0, 1, 1);
        x.canal(1, 4, 1);
        x.canal(2, 3, 1);
        Check.is(1, x.reached(0));
        Surveys.settle(x);
        Check.is(1 + 2 + 16, x.reached(0));
        Check.is(1 + 2 + 16, x.reached(4));
        Check.is(4 + 8, x.reached(3));
        Check.is(32, x.reached(5));
        x.district(1, 1);
        Check.is(1, x.reached(0));
        Check.is(2, x.reached(1));
        for (int bad : new int[] {-1, 6, 7, Integer.MIN_VALUE, Integer.MAX_VALUE}) {
            Check.isThrown(NO_INDEX, () -> x.reached(bad));
        }
    }

    static void promise17() {
        CanalMaps x = Surveys.row(4);
        Check.is(0, x.follow(2, 2));
        Check.is(3, x.follow(0, 3));
        // the sum is of the canals, not of what maps tell
        x.canal(2, 3, 7);
        Check.is(3, x.distance(0, 3));
        Check.is(9, x.follow(0, 3));
        // a map on the way knows no way
        x.close(2, 3);
        Check.is(3, x.distance(0, 3));
        Check.isThrown(NONE, () -> x.follow(0, 3));
        Surveys.settle(x);
        Check.isThrown(NONE, () -> x.follow(0, 3));
        for (int bad : new int[] {-1, 4, 6, Integer.MIN_VALUE, Integer.MAX_VALUE}) {
            Check.isThrown(NO_INDEX, () -> x.follow(bad, bad));
            Check.isThrown(NO_INDEX, () -> x.follow(bad, 0));
            Check.isThrown(NO_INDEX, () -> x.follow(0, bad));
        }
        comingForTheSecondTime();
        wherePartedDistrictsBegin();
    }

    /** 0 thinks that 2 is reached by 1, and 1 that it is reached by 0. */
    private static void comingForTheSecondTime() {
        CanalMaps x = Surveys.of(5);
        x.canal(0, 1, 1);
        x.canal(0, 3, 1);
        x.canal(1, 2, 1);
        x.canal(3, 2, 1);
        x.canal(0, 4, 1);
        Surveys.settle(x);
        Check.is(2, x.follow(0, 2));
        Check.is(3, x.follow(4, 2));
        Check.is(1, x.next(0, 2));
        x.close(1, 2);
        Check.is(0, x.next(1, 2));
        Check.is(1, x.next(0, 2));
        Check.isThrown(NONE, () -> x.follow(0, 2));
        Check.isThrown(NONE, () -> x.follow(1, 2));
        Check.isThrown(NONE, () -> x.follow(4, 2));
        Check.is(1, x.follow(3, 2));
        Surveys.settle(x);
        Check.is(3, x.follow(1, 2));
    }

    /** A map that knows an old way leads to one whose own map knows none, as districts part. */
    private static void wherePartedDistrictsBegin() {
        CanalMaps x = Surveys.row(5);
        x.district(3, 1);
        Surveys.loseUntil(x, 0);
        Check.is(1, x.next(0, 3));
        Check.is(2, x.next(1, 3));
        Check.isThrown(NONE, () -> x.next(2, 3));
        Check.isThrown(NONE, () -> x.follow(0, 3));
        Check.is(2, x.follow(0, 2));
        Check.isThrown(NONE, () -> x.follow(3, 2));
        x.district(3, 0);
        Surveys.settle(x);
        Check.is(4, x.follow(0, 4));
    }

    static void promise18() {
        CanalMaps x = Surveys.of(5);
        x.canal(0, 1, 9);
        x.canal(0, 2, 2);
        x.canal(2, 3, 3);
        x.canal(3, 1, 3);
        Check.is(8, x.real(0, 1));
        Check.is(8, x.real(1, 0));
        Check.is(0, x.real(4, 4));
        Check.isThrown(NONE, () -> x.real(0, 4));
        x.district(2, 1);
        Check.is(9, x.real(0, 1));
        Check.is(12, x.real(0, 3));
        Check.isThrown(NONE, () -> x.real(0, 2));
        Check.is(0, x.real(2, 2));
        x.district(3, 1);
        Check.is(3, x.real(2, 3));
        for (int bad : new int[] {-1, 5, 6, Integer.MIN_VALUE, Integer.MAX_VALUE}) {
            Check.isThrown(NO_INDEX, () -> x.real(bad, bad));
            Check.isThrown(NO_INDEX, () -> x.real(bad, 0));
            Check.isThrown(NO_INDEX, () -> x.real(0, bad));
        }
    }

    static void promise19() {
        CanalMaps x = Surveys.of(4);
        Check.is(true, x.isRight(0));
        x.canal(0, 1, 2);
        x.canal(1, 2, 2);
        Check.is(false, x.isRight(0));
        Check.is(true, x.isRight(3));
        x.pass(1);
        Check.is(false, x.isRight(0));
        Check.is(true, x.isRight(1));
        x.pass(1);
        Check.is(true, x.isRight(0));
        // a canal that makes no way shorter
        x.canal(0, 2, 5);
        Check.is(true, x.isRight(0));
        x.canal(0, 2, 3);
        Check.is(false, x.isRight(0));
        Surveys.settle(x);
        Check.is(true, x.isRight(0));
        // a way to one whom none reaches any more
        x.close(0, 2);
        x.close(1, 2);
        Surveys.loseUntil(x, 0);
        Check.is(true, x.isRight(2));
        Check.is(false, x.isRight(1));
        Check.is(false, x.isRight(0));
        CanalMaps y = Surveys.row(4);
        y.close(2, 3);
        Check.is(false, y.isRight(0));
        Check.is(false, y.isRight(1));
        Check.is(true, y.isRight(2));
        for (int bad : new int[] {-1, 4, 6, Integer.MIN_VALUE, Integer.MAX_VALUE}) {
            Check.isThrown(NO_INDEX, () -> x.isRight(bad));
        }
    }

    // Districts

    private interface Agreement {
        boolean of(CanalMaps x, int district);
    }

    static void promise20() {
        agreements(CanalMaps::agree);
    }

    static void promise21() {
        agreements(CanalMaps::agreeAgain);
    }

    private static void agreements(Agreement agreement) {
        CanalMaps x = Surveys.of(1);
        Check.is(true, agreement.of(x, 0));
        Check.is(true, agreement.of(x, 1));
        x.come();
        x.come();
        Check.is(false, agreement.of(x, 0));
        x.canal(0, 1, 1);
        x.canal(1, 2, 1);
        x.pass(1);
        Check.is(false, agreement.of(x, 0));
        x.pass(1);
        Check.is(true, agreement.of(x, 0));
        // the pages of surveyors of another district, which 0 and 1 know and 2 does not, are nothing to them
        x.come();
        Check.is(false, agreement.of(x, 0));
        x.district(3, 2);
        Check.is(true, agreement.of(x, 0));
        Check.is(true, agreement.of(x, 2));
        x.district(2, 1);
        Surveys.loseUntil(x, 0);
        Check.is(false, agreement.of(x, 0));
        x.canal(0, 1, 2);
        x.pass(1);
        Check.is(true, agreement.of(x, 0));
        Check.is(true, agreement.of(x, 1));
        x.pass(8);
        Check.is(true, agreement.of(x, 0));
        x.pass(1);
        Check.is(false, agreement.of(x, 0));
        x.pass(1);
        Check.is(true, agreement.of(x, 0));
        // the same surveyors, but another serial
        x.canal(0, 1, 3);
        x.lose();
        x.pass(1);
        Check.is(false, agreement.of(x, 0));
        for (int bad : new int[] {-1, 3, Integer.MIN_VALUE, Integer.MAX_VALUE}) {
            Check.isThrown(BAD, () -> agreement.of(x, bad));
        }
    }

    static void promise22() {
        CanalMaps x = Surveys.of(6);
        Check.is(0, x.settledIn());
        for (int surveyor = 0; surveyor < 5; surveyor++) {
            x.canal(surveyor, surveyor + 1, 1);
        }
        String state = Surveys.state(x);
        Check.is(5, x.settledIn());
        Check.is(state, Surveys.state(x));
        Check.is(8, x.account(9));
        x.pass(4);
        Check.is(1, x.settledIn());
        x.pass(1);
        Check.is(0, x.settledIn());
        // ends that renew their pages five ticks apart keep letters on their way for ever
        x.canal(4, 5, 2);
        Check.isThrown(NONE, x::settledIn);
        Check.is(5, x.account(0));
        Check.is(3, x.account(3));
    }

    static void promise23() {
        CanalMaps x = Surveys.of(6);
        Check.is(63, x.members(0));
        x.district(0, 1);
        x.district(5, 2);
        x.district(3, 2);
        Check.is(2 + 4 + 16, x.members(0));
        Check.is(1, x.members(1));
        Check.is(8 + 32, x.members(2));
        for (int bad : new int[] {-1, 3, Integer.MIN_VALUE, Integer.MAX_VALUE}) {
            Check.isThrown(BAD, () -> x.members(bad));
        }
    }

    static void promise24() {
        CanalMaps x = Surveys.of(6);
        for (int place = 0; place < 6; place++) {
            Check.is(place, x.busiest(place));
        }
        x.canal(3, 4, 1);
        x.canal(4, 5, 1);
        x.district(1, 1);
        // 4 has two, 3 and 5 one with the serial 2, then by serials: 1 has 2, and 0 and 2 have 1
        order(x, 4, 3, 5, 1, 0, 2);
        x.canal(4, 5, 2);
        order(x, 4, 5, 3, 1, 0, 2);
        // a canal to another district makes no neighbour
        x.canal(1, 0, 1);
        x.canal(1, 2, 1);
        order(x, 4, 5, 3, 1, 0, 2);
        for (int bad : new int[] {-1, 6, Integer.MIN_VALUE, Integer.MAX_VALUE}) {
            Check.isThrown(NONE, () -> x.busiest(bad));
        }
        CanalMaps y = Surveys.of(2);
        Check.isThrown(NONE, () -> y.busiest(2));
    }

    private static void order(CanalMaps x, int... due) {
        for (int place = 0; place < due.length; place++) {
            Check.is(due[place], x.busiest(place));
        }
    }

    // Commands

    static void promise25() {
        CanalMaps x = new CanalMaps();
        for (int length = 1; length <= 60; length++) {
            Check.is(length, x.append(length % 2 == 0 ? ';' : '+'));
        }
        Check.isThrown(BAD_STATE, () -> x.append(';'));
        Check.is(60, x.account(10));
        Check.isThrown(BAD, x::commands);
        Check.is(60, x.faultPosition());
        Check.is(0, x.account(1));
        Check.is(1, x.append((char) 0));
        Check.is(2, x.append((char) 65535));
        Check.isThrown(BAD, x::commands);
        Check.is(0, x.faultPosition());
        Check.is(1, x.append('l'));
    }

    static void promise26() {
        CanalMaps x = new CanalMaps();
        Check.is(3, Surveys.carryOut(x, "+;+;+"));
        Check.is(3, x.account(1));
        Check.is(1, x.account(9));
        Check.is(0, x.account(10));
        Check.is(5, Surveys.carryOut(x, "c01=4;c10=5;c12=9;x12;s2=1"));
        Check.is(5, x.cost(0, 1));
        Check.is(1, x.surveyorOf(2, 0));
        Check.isThrown(NONE, () -> x.cost(1, 2));
        Check.is(4, Surveys.carryOut(x, "l;l;t9;t12"));
        Check.is(21, x.account(0));
        Check.is(2, x.undo());
        Check.is(0, x.account(0));
        Check.is(2, Surveys.carryOut(x, "t01;t99"));
        Check.is(100, x.account(0));
        Check.is(30, commandsOf60());
        commandsAreLikeMethods();
        String state = Surveys.state(x);
        faulty(x, "", 0);
        Check.is(state, Surveys.state(x));
        for (String text : new String[] {"t5;x01;x01", "t5;+;+;+;+", "s0=2;t0"}) {
            int undone = x.account(9);
            Surveys.type(x, text);
            Check.isThrown(REFUSED, x::commands);
            Check.is(state, Surveys.state(x));
            Check.is(undone, x.account(9));
            Check.is(0, x.account(10));
        }
        refusedCommands();
    }

    private static int commandsOf60() {
        CanalMaps x = Surveys.of(1);
        for (int index = 0; index < 6; index++) {
            Surveys.type(x, "s0=1;s0=0;");
        }
        Check.isThrown(BAD, x::commands);
        Check.is(60, x.faultPosition());
        CanalMaps y = Surveys.of(2);
        y.canal(0, 1, 1);
        for (int index = 0; index < 15; index++) {
            y.canal(0, 1, 3);
            y.canal(0, 1, 2);
        }
        for (int index = 0; index < 29; index++) {
            Surveys.type(y, "l;");
        }
        return Surveys.carryOut(y, "l");
    }

    private static void commandsAreLikeMethods() {
        CanalMaps x = Surveys.of(3);
        CanalMaps y = Surveys.of(3);
        Surveys.carryOut(x, "c21=7;+;c03=2;l;t1;s3=1;c31=5;x21;s3=0;t11");
        y.canal(2, 1, 7);
        y.come();
        y.canal(0, 3, 2);
        y.lose();
        y.pass(1);
        y.district(3, 1);
        y.canal(3, 1, 5);
        y.close(2, 1);
        y.district(3, 0);
        y.pass(11);
        Check.is(Surveys.state(y), Surveys.state(x));
        Check.is(4, x.account(9));
        x.undo();
        Check.is(Surveys.state(Surveys.of(3)), Surveys.state(x));
    }

    private static void refusedCommands() {
        String[][] refused = {
            {"+;+;+;+;+", "8 4 2 6"}, {"c29=1", "8 0 3 9"}, {"c92=1", "8 0 3 9"}, {"l;c11=0", "8 1 4 1"},
            {"l;l;c01=0", "8 2 1 0"}, {"l;c01=4", "8 1 5 0"}, {"x22", "8 0 4 2"}, {"x02", "8 0 6 0"},
            {"x25", "8 0 3 5"}, {"s0=1;s0=1", "8 1 5 0"}, {"s3=9", "8 0 3 3"}, {"s0=9", "8 0 1 0"},
            {"l;l;l", "8 2 7 0"}, {"t0", "8 0 1 0"}, {"t1;t00", "8 1 1 0"},
        };
        for (String[] row : refused) {
            CanalMaps x = Surveys.of(2);
            x.canal(0, 1, 4);
            if (!row[0].startsWith("+")) {
                x.come();
            }
            Surveys.type(x, row[0]);
            isRefused(x, row[1], x::commands);
            Check.is(-1, x.faultPosition());
            Check.is(0, x.account(10));
        }
        // what can be undone is whole after a refused call, when eight changes are kept
        CanalMaps x = Surveys.of(1);
        for (int ticks = 1; ticks <= 8; ticks++) {
            x.pass(1);
        }
        Surveys.type(x, "t5;x01");
        Check.isThrown(REFUSED, x::commands);
        for (int left = 7; left >= 0; left--) {
            Check.is(left, x.undo());
            Check.is(left, x.account(0));
        }
    }

    private static void faulty(CanalMaps x, String text, int position) {
        int undone = x.account(9);
        Surveys.type(x, text);
        Check.isThrown(BAD, x::commands);
        Check.is(position, x.faultPosition());
        Check.is(0, x.account(10));
        Check.is(undone, x.account(9));
    }

    static void promise27() {
        CanalMaps x = Surveys.of(2);
        Check.is(-1, x.faultPosition());
        Object[][] faults = {
            {"", 0}, {";", 0}, {"a", 0}, {" +", 0}, {"+;", 2}, {"+;;", 2}, {"++", 1}, {"+1", 1}, {"+ ", 1},
            {"c", 1}, {"c0", 2}, {"c01", 3}, {"c01=", 4}, {"cx", 1}, {"c0=", 2}, {"c012", 3}, {"c01=;", 4},
            {"c01=44", 5}, {"c01=4=", 5}, {"c01=4;", 6}, {"x", 1}, {"x0", 2}, {"x0;", 2}, {"x012", 3}, {"x01=", 3},
            {"s", 1}, {"s0", 2}, {"s01", 2}, {"s0=", 3}, {"s0=+", 3}, {"s0=12", 4}, {"l1", 1}, {"ll", 1},
            {"t", 1}, {"t;", 1}, {"t123", 3}, {"t1x", 2}, {"t12;t", 5}, {"t1;T", 3}, {"t-1", 1}, {"+;l;C", 4},
            {"t1\u0000", 2}, {"t\u0661", 1}, {"x0/", 2}, {"x0:", 2}, {"+\uffff", 1},
        };
        for (Object[] fault : faults) {
            faulty(x, (String) fault[0], (Integer) fault[1]);
        }
        Check.is(2, x.account(1));
        Surveys.carryOut(x, "t1");
        Check.is(-1, x.faultPosition());
        faulty(x, "t", 1);
        Surveys.type(x, "t0");
        Check.is(1, x.faultPosition());
        Check.isThrown(REFUSED, x::commands);
        Check.is(-1, x.faultPosition());
        faulty(x, "xx", 1);
        x.undo();
        Check.is(1, x.faultPosition());
    }

    static void promise28() {
        CanalMaps x = Surveys.of(2);
        for (int which = 0; which < 4; which++) {
            boolean isCause = which % 2 == 1;
            boolean isDetail = which / 2 == 1;
            Check.isThrown(NONE, () -> x.reason(isCause, isDetail));
        }
        isRefused(x, "3 -7", () -> x.close(-7, 0));
        Check.isThrown(NONE, () -> x.reason(true, false));
        Check.isThrown(NONE, () -> x.reason(true, true));
        Surveys.type(x, "c01=1;t1;x07");
        isRefused(x, "8 2 3 7", x::commands);
        // neither what succeeds nor what is faulty, undone or restored changes it
        x.save();
        x.canal(0, 1, 2);
        x.undo();
        x.restore();
        Surveys.type(x, "?");
        Check.isThrown(BAD, x::commands);
        Check.isThrown(NO_INDEX, () -> x.reached(9));
        Check.is("8 2 3 7", Surveys.reason(x));
        isRefused(x, "7 0", x::lose);
        Check.isThrown(NONE, () -> x.reason(true, false));
        Check.is(0, x.reason(false, true));
    }

    // The line

    static void promise29() {
        CanalMaps x = Surveys.of(3);
        Check.is(3, x.line(2));
        Check.is("2:1", Surveys.line(x, 2));
        x.canal(0, 1, 5);
        x.canal(0, 2, 9);
        x.lose();
        x.lose();
        x.pass(1);
        Check.is("0:3,1=5,2=9 2:2,0=9", Surveys.line(x, 0));
        Check.is("0:3,1=5,2=9 1:2,0=5", Surveys.line(x, 1));
        Check.is("0:3,1=5,2=9 2:2,0=9", Surveys.line(x, 2));
        Check.is(19, x.line(1));
        CanalMaps y = Surveys.of(6);
        for (int one = 0; one < 6; one++) {
            for (int other = 0; other < one; other++) {
                y.canal(one, other, one + other);
            }
        }
        Surveys.settle(y);
        y.pass(90);
        Surveys.settle(y);
        Check.is("0:15,1=1,2=2,3=3,4=4,5=5 1:15,0=1,2=3,3=4,4=5,5=6", Surveys.line(y, 4).substring(0, 49));
        for (int bad : NO_SURVEYORS) {
            Check.isThrown(NO_INDEX, () -> x.line(bad));
        }
        Check.is('0', x.character(0));
        x.line(2);
        Check.isThrown(NO_INDEX, () -> x.line(3));
        x.undo();
        Check.is('2', x.character(12));
    }

    static void promise30() {
        CanalMaps x = Surveys.of(2);
        Check.isThrown(NO_INDEX, () -> x.character(0));
        x.canal(0, 1, 7);
        x.line(1);
        char[] due = "1:2,0=7".toCharArray();
        for (int index = 0; index < due.length; index++) {
            Check.is(due[index], x.character(index));
        }
        for (int bad : new int[] {-1, 7, 8, 99, Integer.MIN_VALUE, Integer.MAX_VALUE}) {
            Check.isThrown(NO_INDEX, () -> x.character(bad));
        }
        // the line stays as it was written
        x.canal(0, 1, 8);
        x.pass(30);
        x.save();
        x.undo();
        x.restore();
        Check.is('7', x.character(6));
        x.canal(0, 1, 7);
        x.line(0);
        x.pass(1);
        Check.is('0', x.character(0));
    }

    // Accounts

    static void promise31() {
        CanalMaps x = Surveys.of(4);
        Check.isThrown(NO_NUMBER, x::meanCost);
        x.canal(0, 1, 4);
        Check.is(4.0, x.meanCost());
        x.canal(2, 1, 5);
        Check.is(4.5, x.meanCost());
        x.canal(3, 1, 1);
        Check.is(10.0 / 3.0, x.meanCost());
        x.district(1, 2);
        Check.is(10.0 / 3.0, x.meanCost());
        x.close(1, 3);
        x.close(1, 2);
        x.close(1, 0);
        Check.isThrown(NO_NUMBER, x::meanCost);
    }

    static void promise32() {
        CanalMaps x = Surveys.of(3);
        Check.isThrown(NO_NUMBER, x::lostShare);
        x.canal(0, 1, 4);
        Check.is(0.0f, x.lostShare());
        x.lose();
        Check.is(0.5f, x.lostShare());
        x.canal(0, 2, 4);
        Check.is("1>0:1.2 0>1:0.3 0>2:0.3 2>0:2.2", Surveys.letters(x));
        Check.is(1.0f / 5.0f, x.lostShare());
        x.district(2, 1);
        // 0.4 goes to 1
        Check.is(3.0f / 6.0f, x.lostShare());
        x.close(0, 1);
        x.pass(1);
        Check.is(1.0f, x.lostShare());
        x.undo();
        Check.is(3.0f / 6.0f, x.lostShare());
        CanalMaps y = Surveys.of(2);
        y.canal(0, 1, 1);
        y.canal(0, 1, 2);
        y.canal(0, 1, 3);
        y.lose();
        Check.is(1.0f / 6.0f, y.lostShare());
        y.lose();
        Check.is(2.0f / 6.0f, y.lostShare());
    }

    static void promise33() {
        CanalMaps x = Surveys.of(4);
        x.canal(0, 1, 1);
        x.canal(1, 2, 1);
        x.canal(2, 3, 4);
        x.lose();
        x.pass(1);
        Surveys.type(x, "t1;");
        // sent: 2 and 3 and 3 for the canals, of which the first is lost, and 4 that go on
        Check.is("2>3:1.3 1>0:2.2 1>0:2.3 2>1:3.2", Surveys.letters(x));
        Check.is("1 4 3 4 12 7 1 10 9", Surveys.accounts(x));
        Check.is(8, x.account(9));
        Check.is(3, x.account(10));
        x.undo();
        Check.is("0 4 3 7 8 0 1 10 4", Surveys.accounts(x));
        Check.is(7, x.account(9));
        x.district(2, 1);
        // 1.3 to 2 and 2.2, 2.3, 2.3, 3.2 are lost, and 1 and 3 renew their pages too: 1.4 to 0
        Check.is("0 4 3 3 9 0 6 13 4", Surveys.accounts(x));
        for (int bad : new int[] {-1, 11, Integer.MIN_VALUE, Integer.MAX_VALUE}) {
            Check.isThrown(BAD, () -> x.account(bad));
        }
    }

    // Undo and the snapshot

    static void promise34() {
        CanalMaps x = new CanalMaps();
        Check.isThrown(BAD_STATE, x::undo);
        String[] states = new String[13];
        Runnable[] changes = {
            x::come, x::come, x::come, () -> x.canal(0, 1, 3), () -> x.canal(1, 2, 4), () -> x.pass(1),
            () -> x.district(1, 2), () -> x.district(1, 0), x::lose, () -> x.close(0, 1),
            () -> Surveys.carryOut(x, "+;c30=2;t3"), () -> x.pass(30),
        };
        for (int change = 0; change < changes.length; change++) {
            states[change] = Surveys.state(x);
            changes[change].run();
            Check.is(Math.min(change + 1, 8), x.account(9));
        }
        for (int left = 7; left >= 0; left--) {
            Check.is(left, x.undo());
            Check.is(states[left + 4], Surveys.state(x));
            Check.is(left, x.account(9));
        }
        Check.isThrown(BAD_STATE, x::undo);
        Check.is(states[4], Surveys.state(x));
        x.pass(1);
        x.come();
        Check.is(1, x.undo());
        x.canal(0, 2, 5);
        Check.is(1, x.undo());
        Check.is(0, x.undo());
        Check.is(states[4], Surveys.state(x));
        // what is no change is not undone
        Surveys.type(x, "t");
        x.line(0);
        x.settledIn();
        x.save();
        Check.isThrown(REFUSED, () -> x.pass(0));
        Check.is(0, x.account(9));
        Check.is(1, x.account(10));
    }

    static void promise35() {
        CanalMaps x = Surveys.row(3);
        Check.is(3, x.save());
        String state = Surveys.state(x);
        Check.is(6, x.account(9));
        x.come();
        x.pass(7);
        Check.is(7, x.undo());
        Check.is(4, x.account(1));
        x.pass(9);
        // undoing does not change what is saved, not even back to what was before it
        for (int left = x.account(9); left > 0; left--) {
            x.undo();
        }
        x.pass(3);
        x.come();
        Check.is(3, x.restore());
        Check.is(state, Surveys.state(x));
        // in place of an earlier snapshot
        x.canal(0, 2, 9);
        String later = Surveys.state(x);
        Check.is(3, x.save());
        x.close(0, 2);
        x.restore();
        Check.is(later, Surveys.state(x));
    }

    static void promise36() {
        CanalMaps x = Surveys.row(2);
        Check.isThrown(BAD_STATE, x::restore);
        x.canal(0, 1, 8);
        x.save();
        String state = Surveys.state(x);
        for (int turn = 0; turn < 2; turn++) {
            x.come();
            x.district(0, 1);
            x.pass(20);
            Check.isThrown(BAD, () -> Surveys.carryOut(x, "t"));
            Surveys.type(x, "t1");
            Check.is(2, x.restore());
            Check.is(state, Surveys.state(x));
            Check.is(0, x.account(9));
            Check.is(2, x.account(10));
            Check.is(1, x.faultPosition());
            Check.isThrown(BAD_STATE, x::undo);
            Check.is(1, x.commands());
            Check.is(1, x.account(9));
            Check.is(0, x.undo());
            Check.is(state, Surveys.state(x));
        }
        CanalMaps y = new CanalMaps();
        y.save();
        y.come();
        Check.is(0, y.restore());
        Check.is(0, y.account(1));
        Check.isThrown(NO_INDEX, () -> y.reached(0));
    }
}
