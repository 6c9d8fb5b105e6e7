import java.util.ArrayList;
import java.util.Arrays;
import java.util.NoSuchElementException;

/**
 * A link survey of canals: surveyors keep maps of pages, flood letters with them over the canals,
 * and find shortest ways by what their maps tell. What is promised stands in ../shared/DOC.md.
 */
public final class CanalMaps {
    private static final int SURVEYORS = 6;
    private static final int PAIRS = SURVEYORS * SURVEYORS;
    private static final int DISTRICTS = 3;
    private static final int GREATEST_COST = 9;
    private static final int MOST_TICKS = 99;
    private static final int AGE_TO_RENEW = 10;
    private static final int AGE_TO_FORGET = 20;
    private static final int MOST_UNDONE = 8;
    private static final int MOST_SIGNS = 60;
    private static final int NONE = -1;

    private static final int OUT_OF_RANGE = 1;
    private static final int TOO_MANY_SURVEYORS = 2;
    private static final int NO_SUCH_SURVEYOR = 3;
    private static final int BOTH_ARE_ONE = 4;
    private static final int SO_ALREADY = 5;
    private static final int NO_CANAL = 6;
    private static final int NO_LETTER = 7;
    private static final int COMMAND_REFUSED = 8;

    private final Survey now;
    private final Survey trial;
    private final Survey saved;
    private final History history;
    private final Ways ways = new Ways();
    private final CommandText text = new CommandText();
    private final StringBuilder written = new StringBuilder();
    private boolean isSaved = false;
    private int latestFault = NONE;
    private Refusal kept = null;

    public CanalMaps() {
        Archive archive = new Archive();
        now = new Survey(archive);
        trial = new Survey(archive);
        saved = new Survey(archive);
        history = new History(archive);
    }

    // Changes

    public int come() throws UnsupportedOperationException {
        return change(Change.COME, 0, 0, 0);
    }

    public int canal(int one, int other, int cost) throws UnsupportedOperationException {
        return change(Change.CANAL, one, other, cost);
    }

    public int close(int one, int other) throws UnsupportedOperationException {
        return change(Change.CLOSE, one, other, 0);
    }

    public int district(int surveyor, int district) throws UnsupportedOperationException {
        return change(Change.DISTRICT, surveyor, district, 0);
    }

    public int lose() throws UnsupportedOperationException {
        return change(Change.LOSE, 0, 0, 0);
    }

    public int pass(int ticks) throws UnsupportedOperationException {
        return change(Change.PASS, ticks, 0, 0);
    }

    private int change(Change change, int first, int second, int third) {
        heed(now.against(change, first, second, third));
        history.keep(now);
        return now.carryOut(change, first, second, third);
    }

    private void heed(Refusal refusal) {
        if (refusal != null) {
            kept = refusal;
            throw new UnsupportedOperationException("refused for a reason that is kept");
        }
    }

    // Surveyors, canals, pages and letters

    public int surveyorOf(int surveyor, int what)
            throws IndexOutOfBoundsException, IllegalArgumentException {
        needSurveyor(surveyor);
        switch (what) {
            case 0: return now.districtOf(surveyor);
            case 1: return now.pageIn(surveyor, surveyor).serial;
            case 2: return now.neighboursOf(surveyor);
            case 3: return now.canalsOf(surveyor);
            case 4: return now.pagesIn(surveyor);
            case 5: return now.letters.countTo(surveyor);
            default: throw new IllegalArgumentException("what is not from 0 to 5");
        }
    }

    public int cost(int one, int other) throws IndexOutOfBoundsException, NoSuchElementException {
        needSurveyor(one);
        needSurveyor(other);
        int cost = now.costBetween(one, other);
        if (cost == 0) {
            throw new NoSuchElementException("there is no canal");
        }
        return cost;
    }

    public int page(int surveyor, int origin, int what)
            throws IndexOutOfBoundsException, IllegalArgumentException, NoSuchElementException {
        needSurveyor(surveyor);
        needSurveyor(origin);
        if (what < 0 || what > 2) {
            throw new IllegalArgumentException("what is not from 0 to 2");
        }
        Page page = now.pageIn(surveyor, origin);
        if (page.isBlank()) {
            throw new NoSuchElementException("the map has no such page");
        }
        if (what == 0) {
            return page.serial;
        }
        return what == 1 ? now.ageOf(page) : page.costsTold();
    }

    public int told(int surveyor, int origin, int other)
            throws IndexOutOfBoundsException, NoSuchElementException {
        needSurveyor(surveyor);
        needSurveyor(origin);
        needSurveyor(other);
        int cost = now.pageIn(surveyor, origin).costTo(other);
        if (cost == 0) {
            throw new NoSuchElementException("the map tells no such cost");
        }
        return cost;
    }

    public int letter(int place, int what) throws IllegalArgumentException, NoSuchElementException {
        if (what < 0 || what > 3) {
            throw new IllegalArgumentException("what is not from 0 to 3");
        }
        if (!now.letters.has(place)) {
            throw new NoSuchElementException("there is no such letter");
        }
        switch (what) {
            case 0: return now.letters.senderOf(place);
            case 1: return now.letters.receiverOf(place);
            case 2: return now.pageOfLetter(place).origin;
            default: return now.pageOfLetter(place).serial;
        }
    }

    // Ways

    public int distance(int surveyor, int to) throws IndexOutOfBoundsException, NoSuchElementException {
        needSurveyor(surveyor);
        needSurveyor(to);
        ways.takeMap(now, surveyor);
        ways.nearestFirst(surveyor);
        return needWay(ways.distanceTo(to));
    }

    public int distanceAgain(int surveyor, int to)
            throws IndexOutOfBoundsException, NoSuchElementException {
        needSurveyor(surveyor);
        needSurveyor(to);
        ways.takeMap(now, surveyor);
        ways.canalByCanal(surveyor);
        return needWay(ways.distanceTo(to));
    }

    public int next(int surveyor, int to) throws IndexOutOfBoundsException, NoSuchElementException {
        needSurveyor(surveyor);
        needSurveyor(to);
        int next = nextByMap(surveyor, to);
        if (next == NONE) {
            throw new NoSuchElementException("it is the same, or the map knows no way");
        }
        return next;
    }

    public int reached(int surveyor) throws IndexOutOfBoundsException {
        needSurveyor(surveyor);
        ways.takeMap(now, surveyor);
        ways.nearestFirst(surveyor);
        int set = 0;
        for (int to = 0; to < SURVEYORS; to++) {
            if (ways.distanceTo(to) < Ways.FAR) {
                set |= 1 << to;
            }
        }
        return set;
    }

    public int follow(int surveyor, int to) throws IndexOutOfBoundsException, NoSuchElementException {
        needSurveyor(surveyor);
        needSurveyor(to);
        int at = surveyor;
        int been = 1 << surveyor;
        int sum = 0;
        for (int step = 0; step < SURVEYORS && at != to; step++) {
            int next = nextByMap(at, to);
            int cost = next == NONE ? 0 : now.costBetween(at, next);
            if (cost == 0 || (been & (1 << next)) != 0) {
                throw new NoSuchElementException("the way cannot be followed");
            }
            been |= 1 << next;
            sum += cost;
            at = next;
        }
        return sum;
    }

    public int real(int surveyor, int to) throws IndexOutOfBoundsException, NoSuchElementException {
        needSurveyor(surveyor);
        needSurveyor(to);
        ways.takeCanals(now);
        ways.nearestFirst(surveyor);
        return needWay(ways.distanceTo(to));
    }

    public boolean isRight(int surveyor) throws IndexOutOfBoundsException {
        needSurveyor(surveyor);
        int[] byMap = new int[SURVEYORS];
        ways.takeMap(now, surveyor);
        ways.nearestFirst(surveyor);
        for (int to = 0; to < SURVEYORS; to++) {
            byMap[to] = ways.distanceTo(to);
        }
        ways.takeCanals(now);
        ways.nearestFirst(surveyor);
        for (int to = 0; to < SURVEYORS; to++) {
            if (byMap[to] != ways.distanceTo(to)) {
                return false;
            }
        }
        return true;
    }

    private int nextByMap(int surveyor, int to) {
        ways.takeMap(now, surveyor);
        return ways.firstStep(surveyor, to);
    }

    // Districts, letters and orders

    public boolean agree(int district) throws IllegalArgumentException {
        needDistrict(district);
        for (int one = 0; one < now.surveyors; one++) {
            for (int other = 0; other < one; other++) {
                if (now.districtOf(one) == district && now.districtOf(other) == district
                        && !now.haveSamePages(one, other, district)) {
                    return false;
                }
            }
        }
        return true;
    }

    public boolean agreeAgain(int district) throws IllegalArgumentException {
        needDistrict(district);
        for (int origin = 0; origin < now.surveyors; origin++) {
            if (now.districtOf(origin) == district && !now.allHaveGreatest(origin, district)) {
                return false;
            }
        }
        return true;
    }

    public int settledIn() throws NoSuchElementException {
        if (now.letters.count == 0) {
            return 0;
        }
        trial.copyFrom(now);
        for (int ticks = 1; ticks <= MOST_TICKS; ticks++) {
            trial.tickOnce();
            if (trial.letters.count == 0) {
                return ticks;
            }
        }
        throw new NoSuchElementException("there are always letters on their way");
    }

    public int members(int district) throws IllegalArgumentException {
        needDistrict(district);
        int set = 0;
        for (int surveyor = 0; surveyor < now.surveyors; surveyor++) {
            if (now.districtOf(surveyor) == district) {
                set |= 1 << surveyor;
            }
        }
        return set;
    }

    public int busiest(int place) throws NoSuchElementException {
        for (int surveyor = 0; surveyor < now.surveyors; surveyor++) {
            if (now.countAhead(surveyor) == place) {
                return surveyor;
            }
        }
        throw new NoSuchElementException("there is no such place");
    }

    // Commands and reasons

    public int append(char character) throws IllegalStateException {
        if (text.isFull()) {
            throw new IllegalStateException("the buffer contains 60 characters");
        }
        text.write(character);
        return text.length;
    }

    public int commands() throws IllegalArgumentException, UnsupportedOperationException {
        latestFault = text.findFault();
        if (latestFault != NONE) {
            text.clear();
            throw new IllegalArgumentException("the text has a fault");
        }
        int count = text.countCommands();
        trial.copyFrom(now);
        Refusal refusal = tryCommands(count);
        text.clear();
        heed(refusal);
        history.keep(now);
        now.copyFrom(trial);
        return count;
    }

    /** Carries out the commands on the trial alone, so that a refused one leaves no trace. */
    private Refusal tryCommands(int count) {
        text.toStart();
        for (int index = 0; index < count && text.readCommand(); index++) {
            Change change = text.change;
            Refusal cause = trial.against(change, text.number(0), text.number(1), text.number(2));
            if (cause != null) {
                return new Refusal(COMMAND_REFUSED, index, cause);
            }
            trial.carryOut(change, text.number(0), text.number(1), text.number(2));
            text.skipSign();
        }
        return null;
    }

    public int faultPosition() {
        return latestFault;
    }

    public int reason(boolean isCause, boolean isDetail) throws NoSuchElementException {
        Refusal asked = kept;
        if (isCause && asked != null) {
            asked = asked.cause;
        }
        if (asked == null) {
            throw new NoSuchElementException("nothing was refused, or there is no cause");
        }
        return isDetail ? asked.detail : asked.reason;
    }

    // The line

    public int line(int surveyor) throws IndexOutOfBoundsException {
        needSurveyor(surveyor);
        written.setLength(0);
        for (int origin = 0; origin < now.surveyors; origin++) {
            Page page = now.pageIn(surveyor, origin);
            if (!page.isBlank()) {
                writePage(page);
            }
        }
        return written.length();
    }

    private void writePage(Page page) {
        if (written.length() > 0) {
            written.append(' ');
        }
        written.append(page.origin).append(':').append(page.serial);
        for (int other = 0; other < SURVEYORS; other++) {
            int cost = page.costTo(other);
            if (cost > 0) {
                written.append(',').append(other).append('=').append(cost);
            }
        }
    }

    public char character(int index) throws IndexOutOfBoundsException {
        if (index < 0 || index >= written.length()) {
            throw new IndexOutOfBoundsException("the line has no such index");
        }
        return written.charAt(index);
    }

    // Accounts

    public double meanCost() throws ArithmeticException {
        int canals = now.countCanals();
        if (canals == 0) {
            throw new ArithmeticException("there are no canals");
        }
        return (double) now.sumOfCosts() / (double) canals;
    }

    public float lostShare() throws ArithmeticException {
        if (now.letters.sent == 0) {
            throw new ArithmeticException("no letter was sent");
        }
        return (float) now.lost / (float) now.letters.sent;
    }

    public int account(int what) throws IllegalArgumentException {
        switch (what) {
            case 0: return now.ticks;
            case 1: return now.surveyors;
            case 2: return now.countCanals();
            case 3: return now.letters.count;
            case 4: return now.letters.sent;
            case 5: return now.arrived;
            case 6: return now.lost;
            case 7: return now.made;
            case 8: return now.countPages();
            case 9: return history.count;
            case 10: return text.length;
            default: throw new IllegalArgumentException("what is not from 0 to 10");
        }
    }

    // Undo and the snapshot

    public int undo() throws IllegalStateException {
        if (history.count == 0) {
            throw new IllegalStateException("there is nothing to undo");
        }
        history.takeBack(now);
        return history.count;
    }

    public int save() {
        saved.copyFrom(now);
        isSaved = true;
        return now.surveyors;
    }

    public int restore() throws IllegalStateException {
        if (!isSaved) {
            throw new IllegalStateException("there is no snapshot");
        }
        now.copyFrom(saved);
        history.forget();
        return now.surveyors;
    }

    // What arguments need

    private void needSurveyor(int surveyor) {
        if (!now.has(surveyor)) {
            throw new IndexOutOfBoundsException("there is no such surveyor");
        }
    }

    private static void needDistrict(int district) {
        if (district < 0 || district >= DISTRICTS) {
            throw new IllegalArgumentException("there is no such district");
        }
    }

    private static int needWay(int distance) {
        if (distance >= Ways.FAR) {
            throw new NoSuchElementException("there is no way");
        }
        return distance;
    }

    /** What can be undone, with the form of its command. */
    private enum Change {
        COME('+', ""),
        CANAL('c', "01=2"),
        CLOSE('x', "01"),
        DISTRICT('s', "0=1"),
        LOSE('l', ""),
        PASS('t', "0?");

        private static final Change[] ALL = values();

        private final int sign;

        /** What follows the sign: 0, 1 and 2 stand for a digit of that number, ? for one that may be missing. */
        private final String form;

        Change(int sign, String form) {
            this.sign = sign;
            this.form = form;
        }

        /** The change whose command begins with a sign, null if none does. */
        static Change beginningWith(char sign) {
            for (int place = 0; place < ALL.length; place++) {
                if (ALL[place].sign == sign) {
                    return ALL[place];
                }
            }
            return null;
        }
    }

    /** Why something was refused; its cause is null if it has none. */
    private static final class Refusal {
        private final int reason;
        private final int detail;
        private final Refusal cause;

        Refusal(int reason, int detail, Refusal cause) {
            this.reason = reason;
            this.detail = detail;
            this.cause = cause;
        }
    }

    /** A page never changes, so that maps, letters and kept surveys can share it. */
    private static final class Page {
        private final int origin;
        private final int serial;
        private final int madeAt;

        /** By the other ends, 0 where it tells none. */
        private final int[] costs;

        Page(int origin, int serial, int madeAt, int[] costs) {
            this.origin = origin;
            this.serial = serial;
            this.madeAt = madeAt;
            this.costs = costs;
        }

        /** Serials begin with 1: a serial 0 stands for no page, and is less than that of every page. */
        boolean isBlank() {
            return serial == 0;
        }

        int costTo(int other) {
            return other >= 0 && other < costs.length ? costs[other] : 0;
        }

        int costsTold() {
            int count = 0;
            for (int other = 0; other < costs.length; other++) {
                if (costs[other] > 0) {
                    count++;
                }
            }
            return count;
        }
    }

    /**
     * All pages that were made, by numbers, so that a survey holds numbers alone and is quickly
     * copied. Number 0 is the blank page. None is taken out: what is undone needs its pages again.
     */
    private static final class Archive {
        private static final int BLANK = 0;

        /** Far above what 512 calls can make; it keeps later calls from filling the machine. */
        private static final int MOST_PAGES = 1000000;

        private final ArrayList<Page> pages = new ArrayList<Page>();
        private final Page blank = new Page(0, 0, 0, new int[SURVEYORS]);

        Archive() {
            pages.add(blank);
        }

        int put(Page page) {
            if (pages.size() >= MOST_PAGES) {
                return BLANK;
            }
            pages.add(page);
            return pages.size() - 1;
        }

        Page numbered(int number) {
            return number >= 0 && number < pages.size() ? pages.get(number) : blank;
        }
    }

    /** The letters on their way, the first one first, each packed into one number. */
    private static final class Letters {
        private static final int FEW = 64;

        /** Far above what 512 calls can send; it keeps later calls from filling the machine. */
        private static final int MOST_LETTERS = 1000000;

        private int[] packed = new int[FEW];
        private int count = 0;

        /** How many were sent so far, those that have arrived or were lost too. */
        private int sent = 0;

        boolean has(int place) {
            return place >= 0 && place < count;
        }

        /** A letter's page, by its number in the archive. */
        int pageOf(int place) {
            return has(place) ? packed[place] / PAIRS : Archive.BLANK;
        }

        int senderOf(int place) {
            return has(place) ? Math.floorMod(packed[place], PAIRS) / SURVEYORS : 0;
        }

        int receiverOf(int place) {
            return has(place) ? Math.floorMod(packed[place], SURVEYORS) : 0;
        }

        int countTo(int surveyor) {
            int to = 0;
            for (int place = 0; place < count; place++) {
                if (receiverOf(place) == surveyor) {
                    to++;
                }
            }
            return to;
        }

        void put(int sender, int receiver, int page) {
            if (count >= MOST_LETTERS) {
                return;
            }
            if (count >= packed.length) {
                packed = Arrays.copyOf(packed, 2 * count);
            }
            packed[count] = page * PAIRS + sender * SURVEYORS + receiver;
            count++;
            sent++;
        }

        void removeFirst(int many) {
            if (many >= 0 && many <= count) {
                System.arraycopy(packed, many, packed, 0, count - many);
                count -= many;
            }
        }

        /** Removes all letters from a surveyor or to it, and answers how many those were. */
        int removeOf(int surveyor) {
            int left = 0;
            for (int place = 0; place < count; place++) {
                if (senderOf(place) != surveyor && receiverOf(place) != surveyor) {
                    packed[left] = packed[place];
                    left++;
                }
            }
            int removed = count - left;
            count = left;
            return removed;
        }

        void takeOver(Letters other) {
            if (packed.length < other.count) {
                packed = new int[2 * other.count];
            }
            System.arraycopy(other.packed, 0, packed, 0, other.count);
            count = other.count;
            sent = other.sent;
        }
    }

    /** All that can be undone: surveyors, canals, maps, letters and what is counted of them. */
    private static final class Survey {
        private final Archive archive;
        private final int[] districts = new int[SURVEYORS];

        /** By pairs of surveyors, 0 where there is no canal. */
        private final int[] costs = new int[PAIRS];

        /** By the surveyor whose map it is and the surveyor whose page it is, numbers in the archive. */
        private final int[] maps = new int[PAIRS];

        private final Letters letters = new Letters();
        private int surveyors = 0;
        private int ticks = 0;
        private int arrived = 0;
        private int lost = 0;
        private int made = 0;

        Survey(Archive archive) {
            this.archive = archive;
        }

        void copyFrom(Survey other) {
            System.arraycopy(other.districts, 0, districts, 0, SURVEYORS);
            System.arraycopy(other.costs, 0, costs, 0, PAIRS);
            System.arraycopy(other.maps, 0, maps, 0, PAIRS);
            letters.takeOver(other.letters);
            surveyors = other.surveyors;
            ticks = other.ticks;
            arrived = other.arrived;
            lost = other.lost;
            made = other.made;
        }

        // What there is

        boolean has(int surveyor) {
            return surveyor >= 0 && surveyor < surveyors;
        }

        /** Where a pair stands in costs and maps; the first place for what is no pair. */
        private static int pair(int one, int other) {
            boolean isPair = one >= 0 && one < SURVEYORS && other >= 0 && other < SURVEYORS;
            return isPair ? one * SURVEYORS + other : 0;
        }

        int districtOf(int surveyor) {
            return has(surveyor) ? districts[surveyor] : NONE;
        }

        int costBetween(int one, int other) {
            return costs[pair(one, other)];
        }

        boolean areNeighbours(int one, int other) {
            return has(one) && has(other)
                    && costs[pair(one, other)] > 0 && districts[one] == districts[other];
        }

        /** The page of a surveyor in the map of another one, blank if there is none. */
        Page pageIn(int surveyor, int origin) {
            return archive.numbered(maps[pair(surveyor, origin)]);
        }

        Page pageOfLetter(int place) {
            return archive.numbered(letters.pageOf(place));
        }

        int ageOf(Page page) {
            return ticks - page.madeAt;
        }

        int neighboursOf(int surveyor) {
            int count = 0;
            for (int other = 0; other < surveyors; other++) {
                if (areNeighbours(surveyor, other)) {
                    count++;
                }
            }
            return count;
        }

        int canalsOf(int surveyor) {
            int count = 0;
            for (int other = 0; other < surveyors; other++) {
                if (costBetween(surveyor, other) > 0) {
                    count++;
                }
            }
            return count;
        }

        int pagesIn(int surveyor) {
            int count = 0;
            for (int origin = 0; origin < surveyors; origin++) {
                if (!pageIn(surveyor, origin).isBlank()) {
                    count++;
                }
            }
            return count;
        }

        int countCanals() {
            int ends = 0;
            for (int surveyor = 0; surveyor < surveyors; surveyor++) {
                ends += canalsOf(surveyor);
            }
            return ends / 2;
        }

        int sumOfCosts() {
            int sum = 0;
            for (int one = 0; one < surveyors; one++) {
                for (int other = 0; other < one; other++) {
                    sum += costBetween(one, other);
                }
            }
            return sum;
        }

        int countPages() {
            int count = 0;
            for (int surveyor = 0; surveyor < surveyors; surveyor++) {
                count += pagesIn(surveyor);
            }
            return count;
        }

        /** How many surveyors stand before one in the order by neighbours. */
        int countAhead(int surveyor) {
            int count = 0;
            for (int other = 0; other < surveyors; other++) {
                int ahead = neighboursOf(other) - neighboursOf(surveyor);
                if (ahead == 0) {
                    ahead = pageIn(other, other).serial - pageIn(surveyor, surveyor).serial;
                }
                if (ahead == 0) {
                    ahead = surveyor - other;
                }
                if (ahead > 0) {
                    count++;
                }
            }
            return count;
        }

        /** Whether two maps have the same pages of the surveyors of a district. */
        boolean haveSamePages(int one, int other, int district) {
            for (int origin = 0; origin < surveyors; origin++) {
                if (districts[origin] == district
                        && pageIn(one, origin).serial != pageIn(other, origin).serial) {
                    return false;
                }
            }
            return true;
        }

        /** Whether all of a district have the page of a surveyor with the greatest serial among them. */
        boolean allHaveGreatest(int origin, int district) {
            int greatest = 0;
            for (int surveyor = 0; surveyor < surveyors; surveyor++) {
                if (districts[surveyor] == district) {
                    greatest = Math.max(greatest, pageIn(surveyor, origin).serial);
                }
            }
            for (int surveyor = 0; surveyor < surveyors; surveyor++) {
                if (districts[surveyor] == district && pageIn(surveyor, origin).serial < greatest) {
                    return false;
                }
            }
            return true;
        }

        // Why a change is refused: null if it is not

        Refusal against(Change change, int first, int second, int third) {
            switch (change) {
                case COME: return surveyors < SURVEYORS ? null : because(TOO_MANY_SURVEYORS, SURVEYORS);
                case CANAL: return againstCanal(first, second, third);
                case CLOSE: return againstClosing(first, second);
                case DISTRICT: return againstDistrict(first, second);
                case LOSE: return letters.count > 0 ? null : because(NO_LETTER, 0);
                default: return first >= 1 && first <= MOST_TICKS ? null : because(OUT_OF_RANGE, 0);
            }
        }

        private Refusal againstPair(int one, int other) {
            if (!has(one)) {
                return because(NO_SUCH_SURVEYOR, one);
            }
            if (!has(other)) {
                return because(NO_SUCH_SURVEYOR, other);
            }
            return one == other ? because(BOTH_ARE_ONE, one) : null;
        }

        private Refusal againstCanal(int one, int other, int cost) {
            Refusal refusal = againstPair(one, other);
            if (refusal != null) {
                return refusal;
            }
            if (cost < 1 || cost > GREATEST_COST) {
                return because(OUT_OF_RANGE, 0);
            }
            return costBetween(one, other) == cost ? because(SO_ALREADY, 0) : null;
        }

        private Refusal againstClosing(int one, int other) {
            Refusal refusal = againstPair(one, other);
            if (refusal != null) {
                return refusal;
            }
            return costBetween(one, other) == 0 ? because(NO_CANAL, 0) : null;
        }

        private Refusal againstDistrict(int surveyor, int district) {
            if (!has(surveyor)) {
                return because(NO_SUCH_SURVEYOR, surveyor);
            }
            if (district < 0 || district >= DISTRICTS) {
                return because(OUT_OF_RANGE, 0);
            }
            return districts[surveyor] == district ? because(SO_ALREADY, 0) : null;
        }

        private static Refusal because(int reason, int detail) {
            return new Refusal(reason, detail, null);
        }

        // Changes, after it was asked what stands against them

        int carryOut(Change change, int first, int second, int third) {
            switch (change) {
                case COME: return addSurveyor();
                case CANAL: return setCanal(first, second, third);
                case CLOSE: return setCanal(first, second, 0);
                case DISTRICT: return moveTo(first, second);
                case LOSE: return loseFirst();
                default:
                    for (int tick = 0; tick < first && tick < MOST_TICKS; tick++) {
                        tickOnce();
                    }
                    return letters.count;
            }
        }

        private int addSurveyor() {
            int surveyor = surveyors;
            surveyors++;
            renew(surveyor);
            return surveyor;
        }

        /** Gives a canal a cost, 0 for none, and answers the cost before. */
        private int setCanal(int one, int other, int cost) {
            int before = costBetween(one, other);
            costs[pair(one, other)] = cost;
            costs[pair(other, one)] = cost;
            if (districtOf(one) == districtOf(other)) {
                renew(Math.min(one, other));
                renew(Math.max(one, other));
            }
            return before;
        }

        private int moveTo(int surveyor, int district) {
            int before = districtOf(surveyor);
            if (!has(surveyor)) {
                return before;
            }
            districts[surveyor] = district;
            lost += letters.removeOf(surveyor);
            forget(surveyor, 0);
            for (int other = 0; other < surveyors; other++) {
                if (other == surveyor || costBetween(surveyor, other) > 0) {
                    renew(other);
                }
            }
            return before;
        }

        private int loseFirst() {
            int origin = pageOfLetter(0).origin;
            letters.removeFirst(1);
            lost++;
            return origin;
        }

        void tickOnce() {
            int arriving = letters.count;
            ticks++;
            for (int surveyor = 0; surveyor < surveyors; surveyor++) {
                forget(surveyor, AGE_TO_FORGET);
                if (ageOf(pageIn(surveyor, surveyor)) >= AGE_TO_RENEW) {
                    renew(surveyor);
                }
            }
            for (int place = 0; place < arriving; place++) {
                deliver(place);
            }
            letters.removeFirst(arriving);
        }

        /** Lets a surveyor forget the pages of others that have an age or more. */
        private void forget(int surveyor, int age) {
            for (int origin = 0; origin < surveyors; origin++) {
                if (origin != surveyor && ageOf(pageIn(surveyor, origin)) >= age) {
                    maps[pair(surveyor, origin)] = Archive.BLANK;
                }
            }
        }

        private void renew(int surveyor) {
            int[] told = new int[SURVEYORS];
            for (int other = 0; other < surveyors; other++) {
                told[other] = areNeighbours(surveyor, other) ? costBetween(surveyor, other) : 0;
            }
            int serial = pageIn(surveyor, surveyor).serial + 1;
            int page = archive.put(new Page(surveyor, serial, ticks, told));
            maps[pair(surveyor, surveyor)] = page;
            made++;
            sendToNeighbours(surveyor, page, NONE);
        }

        private void sendToNeighbours(int sender, int page, int except) {
            for (int other = 0; other < surveyors; other++) {
                if (other != except && areNeighbours(sender, other)) {
                    letters.put(sender, other, page);
                }
            }
        }

        private void deliver(int place) {
            int sender = letters.senderOf(place);
            int receiver = letters.receiverOf(place);
            if (!areNeighbours(sender, receiver)) {
                lost++;
                return;
            }
            arrived++;
            Page page = pageOfLetter(place);
            if (page.origin == receiver) {
                return;
            }
            int entry = pair(receiver, page.origin);
            int serial = archive.numbered(maps[entry]).serial;
            if (page.serial > serial) {
                maps[entry] = letters.pageOf(place);
                sendToNeighbours(receiver, maps[entry], sender);
            } else if (page.serial < serial) {
                letters.put(receiver, sender, maps[entry]);
            }
        }
    }

    /** The surveys before the latest changes, in a ring of places that are used again. */
    private static final class History {
        private final Survey[] places = new Survey[MOST_UNDONE];
        private int latest = 0;
        private int count = 0;

        History(Archive archive) {
            for (int place = 0; place < MOST_UNDONE; place++) {
                places[place] = new Survey(archive);
            }
        }

        void keep(Survey survey) {
            latest = (latest + 1) % MOST_UNDONE;
            places[latest].copyFrom(survey);
            count = Math.min(count + 1, MOST_UNDONE);
        }

        void takeBack(Survey survey) {
            if (count > 0) {
                survey.copyFrom(places[latest]);
                latest = (latest + MOST_UNDONE - 1) % MOST_UNDONE;
                count--;
            }
        }

        void forget() {
            count = 0;
        }
    }

    /** Shortest ways over the canals that were taken last. */
    private static final class Ways {
        /** The distance where there is no way: more than any sum of costs. */
        private static final int FAR = 1000000;

        /** By pairs, from the first to the second, 0 where no canal counts. */
        private final int[] costs = new int[PAIRS];

        private final int[] distances = new int[SURVEYORS];

        /** Takes the canals that count in the map of a surveyor. */
        void takeMap(Survey survey, int surveyor) {
            for (int from = 0; from < SURVEYORS; from++) {
                Page page = survey.pageIn(surveyor, from);
                for (int to = 0; to < SURVEYORS; to++) {
                    boolean isBack = survey.pageIn(surveyor, to).costTo(from) > 0;
                    costs[from * SURVEYORS + to] = isBack ? page.costTo(to) : 0;
                }
            }
        }

        /** Takes the canals between neighbours, as they are. */
        void takeCanals(Survey survey) {
            for (int from = 0; from < SURVEYORS; from++) {
                for (int to = 0; to < SURVEYORS; to++) {
                    boolean counts = survey.areNeighbours(from, to);
                    costs[from * SURVEYORS + to] = counts ? survey.costBetween(from, to) : 0;
                }
            }
        }

        int distanceTo(int surveyor) {
            return surveyor >= 0 && surveyor < SURVEYORS ? distances[surveyor] : FAR;
        }

        /** Finds the distances from a surveyor: that of the nearest one of those left is final. */
        void nearestFirst(int surveyor) {
            begin(surveyor);
            int left = (1 << SURVEYORS) - 1;
            for (int turn = 0; turn < SURVEYORS; turn++) {
                int nearest = nearestOf(left);
                if (nearest == NONE) {
                    return;
                }
                left &= ~(1 << nearest);
                for (int to = 0; to < SURVEYORS; to++) {
                    shorten(nearest, to);
                }
            }
        }

        /** Finds the same by going through all canals as long as a distance falls. */
        void canalByCanal(int surveyor) {
            begin(surveyor);
            boolean falls = true;
            for (int turn = 0; turn < SURVEYORS && falls; turn++) {
                falls = false;
                for (int from = 0; from < SURVEYORS; from++) {
                    for (int to = 0; to < SURVEYORS; to++) {
                        falls |= shorten(from, to);
                    }
                }
            }
        }

        /** The lowest surveyor with which a shortest way can begin, or NONE. */
        int firstStep(int surveyor, int to) {
            nearestFirst(surveyor);
            int least = distanceTo(to);
            if (surveyor == to || least >= FAR) {
                return NONE;
            }
            for (int step = 0; step < SURVEYORS; step++) {
                int cost = costs[surveyor * SURVEYORS + step];
                nearestFirst(step);
                if (cost > 0 && cost + distanceTo(to) == least) {
                    return step;
                }
            }
            return NONE;
        }

        private void begin(int surveyor) {
            Arrays.fill(distances, FAR);
            if (surveyor >= 0 && surveyor < SURVEYORS) {
                distances[surveyor] = 0;
            }
        }

        private int nearestOf(int set) {
            int nearest = NONE;
            int least = FAR;
            for (int surveyor = 0; surveyor < SURVEYORS; surveyor++) {
                if ((set & (1 << surveyor)) != 0 && distances[surveyor] < least) {
                    nearest = surveyor;
                    least = distances[surveyor];
                }
            }
            return nearest;
        }

        /** Takes a canal into a way, if the distance of its second end falls by it. */
        private boolean shorten(int from, int to) {
            int cost = costs[from * SURVEYORS + to];
            boolean falls = cost > 0 && distances[from] + cost < distances[to];
            if (falls) {
                distances[to] = distances[from] + cost;
            }
            return falls;
        }
    }

    /** The text buffer, with a place at which it is read. */
    private static final class CommandText {
        private static final int NUMBERS = 3;

        private final char[] signs = new char[MOST_SIGNS];
        private int length = 0;
        private int place = 0;

        /** The command that was read last. */
        private Change change = Change.COME;

        private final int[] numbers = new int[NUMBERS];

        boolean isFull() {
            return length >= MOST_SIGNS;
        }

        void write(char sign) {
            if (!isFull()) {
                signs[length] = sign;
                length++;
            }
        }

        void clear() {
            length = 0;
        }

        void toStart() {
            place = 0;
        }

        void skipSign() {
            place++;
        }

        int number(int index) {
            return index >= 0 && index < NUMBERS ? numbers[index] : 0;
        }

        /** The fault position, or NONE. */
        int findFault() {
            toStart();
            for (int index = 0; index < MOST_SIGNS; index++) {
                if (!readCommand()) {
                    return place;
                }
                if (place >= length) {
                    return NONE;
                }
                skipSign();
            }
            return place;
        }

        /** How many commands there are in a text without a fault. */
        int countCommands() {
            int count = 1;
            for (int index = 0; index < length; index++) {
                if (signs[index] == ';') {
                    count++;
                }
            }
            return count;
        }

        /** Reads a command up to what ends it, and answers true, or up to a fault. */
        boolean readCommand() {
            Change begun = place >= 0 && place < length ? Change.beginningWith(signs[place]) : null;
            if (begun == null) {
                return false;
            }
            change = begun;
            place++;
            Arrays.fill(numbers, 0);
            String form = change.form;
            for (int part = 0; part < form.length(); part++) {
                if (!readPart(form.charAt(part))) {
                    return false;
                }
            }
            return place >= length || signs[place] == ';';
        }

        private boolean readPart(char part) {
            char sign = place >= 0 && place < length ? signs[place] : ' ';
            boolean isDigit = sign >= '0' && sign <= '9';
            if (part == '=') {
                place += sign == '=' ? 1 : 0;
                return sign == '=';
            }
            if (!isDigit) {
                return part == '?';
            }
            int index = part == '?' ? 0 : part - '0';
            if (index >= 0 && index < NUMBERS) {
                numbers[index] = numbers[index] * 10 + sign - '0';
            }
            place++;
            return true;
        }
    }
}
