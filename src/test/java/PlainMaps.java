import java.util.ArrayList;
import java.util.List;
import java.util.NoSuchElementException;
import java.util.TreeMap;
import java.util.TreeSet;
import java.util.regex.Matcher;
import java.util.regex.Pattern;

/**
 * The document written a second time, as plainly as can be and with other means: maps of objects,
 * states that are copied whole, ways found by trying all, texts by a regular expression.
 */
final class PlainMaps {
    private static final Pattern TEXT;

    static {
        String command = "(\\+|c[0-9][0-9]=[0-9]|x[0-9][0-9]|s[0-9]=[0-9]|l|t[0-9][0-9]?)";
        TEXT = Pattern.compile(command + "(;" + command + ")*");
    }

    private record Page(int origin, int serial, int madeAt, TreeMap<Integer, Integer> costs) {
    }

    private record Letter(int sender, int receiver, Page page) {
    }

    private static final class State {
        int tick, sent, arrived, lost, made;
        List<Integer> districts = new ArrayList<>();
        TreeMap<String, Integer> canals = new TreeMap<>();
        List<TreeMap<Integer, Page>> maps = new ArrayList<>();
        List<Letter> letters = new ArrayList<>();

        State copy() {
            State other = new State();
            other.tick = tick;
            other.sent = sent;
            other.arrived = arrived;
            other.lost = lost;
            other.made = made;
            other.districts.addAll(districts);
            other.canals.putAll(canals);
            for (TreeMap<Integer, Page> map : maps) {
                other.maps.add(new TreeMap<>(map));
            }
            other.letters.addAll(letters);
            return other;
        }
    }

    /** What is refused, with its reason and detail. */
    private static final class Refused extends Exception {
        final int reason;
        final int detail;

        Refused(int reason, int detail) {
            this.reason = reason;
            this.detail = detail;
        }
    }

    private interface Change {
        int carryOut() throws Refused;
    }

    private State s = new State();
    private State saved = null;
    private final List<State> before = new ArrayList<>();
    private String text = "";
    private String line = "";
    private int fault = -1;
    private int[] reason = null;

    // What stands in a state

    private int n() {
        return s.districts.size();
    }

    private static String key(int one, int other) {
        return Math.min(one, other) + "-" + Math.max(one, other);
    }

    private boolean neighbours(int one, int other) {
        return s.canals.containsKey(key(one, other)) && s.districts.get(one).equals(s.districts.get(other));
    }

    private Page own(int surveyor) {
        return s.maps.get(surveyor).get(surveyor);
    }

    private void send(int from, int to, Page page) {
        s.letters.add(new Letter(from, to, page));
        s.sent++;
    }

    private void renew(int surveyor) {
        TreeMap<Integer, Integer> costs = new TreeMap<>();
        for (int k = 0; k < n(); k++) {
            if (neighbours(surveyor, k)) {
                costs.put(k, s.canals.get(key(surveyor, k)));
            }
        }
        Page page = new Page(surveyor, own(surveyor) == null ? 1 : own(surveyor).serial + 1, s.tick, costs);
        s.made++;
        s.maps.get(surveyor).put(surveyor, page);
        for (int k : costs.keySet()) {
            send(surveyor, k, page);
        }
    }

    private void tick() {
        s.tick++;
        List<Letter> arriving = new ArrayList<>(s.letters);
        for (int k = 0; k < n(); k++) {
            int one = k;
            s.maps.get(k).values().removeIf(page -> page.origin != one && s.tick - page.madeAt >= 20);
            if (s.tick - own(k).madeAt >= 10) {
                renew(k);
            }
        }
        for (Letter letter : arriving) {
            s.letters.remove(0);
            arrive(letter);
        }
    }

    private void arrive(Letter letter) {
        if (!neighbours(letter.sender, letter.receiver)) {
            s.lost++;
            return;
        }
        s.arrived++;
        if (letter.page.origin == letter.receiver) {
            return;
        }
        TreeMap<Integer, Page> map = s.maps.get(letter.receiver);
        Page known = map.get(letter.page.origin);
        if (known == null || known.serial < letter.page.serial) {
            map.put(letter.page.origin, letter.page);
            for (int k = 0; k < n(); k++) {
                if (k != letter.sender && neighbours(letter.receiver, k)) {
                    send(letter.receiver, k, letter.page);
                }
            }
        } else if (known.serial > letter.page.serial) {
            send(letter.receiver, letter.sender, known);
        }
    }

    // Changes

    private int call(Change change) {
        State old = s.copy();
        try {
            int answer = change.carryOut();
            before.add(old);
            if (before.size() > 8) {
                before.remove(0);
            }
            return answer;
        } catch (Refused refused) {
            s = old;
            if (refused.reason != 8) {
                reason = new int[] {refused.reason, refused.detail};
            }
            throw new UnsupportedOperationException();
        }
    }

    private void surveyors(int... numbers) throws Refused {
        for (int number : numbers) {
            if (number < 0 || number >= n()) {
                throw new Refused(3, number);
            }
        }
    }

    private static void refuseIf(boolean isSo, int reason, int detail) throws Refused {
        if (isSo) {
            throw new Refused(reason, detail);
        }
    }

    private int doCome() throws Refused {
        refuseIf(n() == 6, 2, 6);
        s.districts.add(0);
        s.maps.add(new TreeMap<>());
        renew(n() - 1);
        return n() - 1;
    }

    private int doCanal(int one, int other, int cost) throws Refused {
        surveyors(one, other);
        refuseIf(one == other, 4, one);
        refuseIf(cost < 1 || cost > 9, 1, 0);
        Integer old = s.canals.get(key(one, other));
        refuseIf(old != null && old == cost, 5, 0);
        s.canals.put(key(one, other), cost);
        renewBoth(one, other);
        return old == null ? 0 : old;
    }

    private int doClose(int one, int other) throws Refused {
        surveyors(one, other);
        refuseIf(one == other, 4, one);
        Integer old = s.canals.get(key(one, other));
        refuseIf(old == null, 6, 0);
        s.canals.remove(key(one, other));
        renewBoth(one, other);
        return old;
    }

    private void renewBoth(int one, int other) {
        if (s.districts.get(one).equals(s.districts.get(other))) {
            renew(Math.min(one, other));
            renew(Math.max(one, other));
        }
    }

    private int doDistrict(int surveyor, int district) throws Refused {
        surveyors(surveyor);
        refuseIf(district < 0 || district > 2, 1, 0);
        int old = s.districts.get(surveyor);
        refuseIf(old == district, 5, 0);
        s.districts.set(surveyor, district);
        int letters = s.letters.size();
        s.letters.removeIf(letter -> letter.sender == surveyor || letter.receiver == surveyor);
        s.lost += letters - s.letters.size();
        s.maps.get(surveyor).keySet().removeIf(origin -> origin != surveyor);
        for (int k = 0; k < n(); k++) {
            if (k == surveyor || s.canals.containsKey(key(k, surveyor))) {
                renew(k);
            }
        }
        return old;
    }

    private int doLose() throws Refused {
        refuseIf(s.letters.isEmpty(), 7, 0);
        s.lost++;
        return s.letters.remove(0).page.origin;
    }

    private int doPass(int ticks) throws Refused {
        refuseIf(ticks < 1 || ticks > 99, 1, 0);
        for (int k = 0; k < ticks; k++) {
            tick();
        }
        return s.letters.size();
    }

    int come() {
        return call(this::doCome);
    }

    int canal(int one, int other, int cost) {
        return call(() -> doCanal(one, other, cost));
    }

    int close(int one, int other) {
        return call(() -> doClose(one, other));
    }

    int district(int surveyor, int district) {
        return call(() -> doDistrict(surveyor, district));
    }

    int lose() {
        return call(this::doLose);
    }

    int pass(int ticks) {
        return call(() -> doPass(ticks));
    }

    // Numbers

    private void indexes(int... numbers) {
        for (int number : numbers) {
            if (number < 0 || number >= n()) {
                throw new IndexOutOfBoundsException();
            }
        }
    }

    private static void from0To(int most, int what) {
        if (what < 0 || what > most) {
            throw new IllegalArgumentException();
        }
    }

    private static <T> T there(T thing) {
        if (thing == null) {
            throw new NoSuchElementException();
        }
        return thing;
    }

    int surveyorOf(int surveyor, int what) {
        indexes(surveyor);
        from0To(5, what);
        int neighbours = 0;
        int canals = 0;
        for (int k = 0; k < n(); k++) {
            neighbours += neighbours(surveyor, k) ? 1 : 0;
            canals += s.canals.containsKey(key(surveyor, k)) ? 1 : 0;
        }
        int letters = (int) s.letters.stream().filter(letter -> letter.receiver == surveyor).count();
        return new int[] {s.districts.get(surveyor), own(surveyor).serial, neighbours, canals,
            s.maps.get(surveyor).size(), letters}[what];
    }

    int cost(int one, int other) {
        indexes(one, other);
        return there(s.canals.get(key(one, other)));
    }

    int page(int surveyor, int origin, int what) {
        indexes(surveyor, origin);
        from0To(2, what);
        Page page = there(s.maps.get(surveyor).get(origin));
        return new int[] {page.serial, s.tick - page.madeAt, page.costs.size()}[what];
    }

    int told(int surveyor, int origin, int other) {
        indexes(surveyor, origin, other);
        return there(there(s.maps.get(surveyor).get(origin)).costs.get(other));
    }

    int letter(int place, int what) {
        from0To(3, what);
        if (place < 0 || place >= s.letters.size()) {
            throw new NoSuchElementException();
        }
        Letter letter = s.letters.get(place);
        return new int[] {letter.sender, letter.receiver, letter.page.origin, letter.page.serial}[what];
    }

    // Ways: all that go to no surveyor twice are tried

    private int[][] mapCosts(int surveyor) {
        int[][] costs = new int[6][6];
        for (Page from : s.maps.get(surveyor).values()) {
            for (Page to : s.maps.get(surveyor).values()) {
                if (from.costs.containsKey(to.origin) && to.costs.containsKey(from.origin)) {
                    costs[from.origin][to.origin] = from.costs.get(to.origin);
                }
            }
        }
        return costs;
    }

    private int[][] realCosts() {
        int[][] costs = new int[6][6];
        for (int one = 0; one < n(); one++) {
            for (int other = 0; other < n(); other++) {
                costs[one][other] = neighbours(one, other) ? s.canals.get(key(one, other)) : 0;
            }
        }
        return costs;
    }

    private static Integer least(int[][] costs, int at, int to, TreeSet<Integer> been) {
        if (at == to) {
            return 0;
        }
        Integer least = null;
        been.add(at);
        for (int k = 0; k < 6; k++) {
            if (costs[at][k] > 0 && !been.contains(k)) {
                Integer rest = least(costs, k, to, been);
                if (rest != null && (least == null || rest + costs[at][k] < least)) {
                    least = rest + costs[at][k];
                }
            }
        }
        been.remove(at);
        return least;
    }

    private Integer byMap(int surveyor, int to) {
        return least(mapCosts(surveyor), surveyor, to, new TreeSet<>());
    }

    private Integer byCanals(int surveyor, int to) {
        return least(realCosts(), surveyor, to, new TreeSet<>());
    }

    int distance(int surveyor, int to) {
        indexes(surveyor, to);
        return there(byMap(surveyor, to));
    }

    int distanceAgain(int surveyor, int to) {
        return distance(surveyor, to);
    }

    int next(int surveyor, int to) {
        indexes(surveyor, to);
        return there(step(surveyor, to));
    }

    private Integer step(int surveyor, int to) {
        Integer least = byMap(surveyor, to);
        if (surveyor == to || least == null) {
            return null;
        }
        int[][] costs = mapCosts(surveyor);
        for (int k = 0; k < 6; k++) {
            TreeSet<Integer> been = new TreeSet<>();
            been.add(surveyor);
            Integer rest = costs[surveyor][k] > 0 ? least(costs, k, to, been) : null;
            if (rest != null && rest + costs[surveyor][k] == least) {
                return k;
            }
        }
        throw new AssertionError("no step");
    }

    int reached(int surveyor) {
        indexes(surveyor);
        int set = 0;
        for (int k = 0; k < n(); k++) {
            set += byMap(surveyor, k) != null ? 1 << k : 0;
        }
        return set;
    }

    int follow(int surveyor, int to) {
        indexes(surveyor, to);
        TreeSet<Integer> been = new TreeSet<>();
        int sum = 0;
        for (int at = surveyor; at != to; ) {
            been.add(at);
            int next = there(step(at, to));
            sum += there(s.canals.get(key(at, next)));
            if (been.contains(next)) {
                throw new NoSuchElementException();
            }
            at = next;
        }
        return sum;
    }

    int real(int surveyor, int to) {
        indexes(surveyor, to);
        return there(byCanals(surveyor, to));
    }

    boolean isRight(int surveyor) {
        indexes(surveyor);
        for (int k = 0; k < n(); k++) {
            if (!String.valueOf(byMap(surveyor, k)).equals(String.valueOf(byCanals(surveyor, k)))) {
                return false;
            }
        }
        return true;
    }

    // Districts

    boolean agree(int district) {
        from0To(2, district);
        TreeSet<String> views = new TreeSet<>();
        for (int k = 0; k < n(); k++) {
            if (s.districts.get(k) == district) {
                StringBuilder view = new StringBuilder();
                for (Page page : s.maps.get(k).values()) {
                    if (s.districts.get(page.origin) == district) {
                        view.append(page.origin).append(':').append(page.serial).append(' ');
                    }
                }
                views.add(view.toString());
            }
        }
        return views.size() <= 1;
    }

    boolean agreeAgain(int district) {
        return agree(district);
    }

    int settledIn() {
        State old = s;
        s = s.copy();
        int ticks = 0;
        while (!s.letters.isEmpty() && ticks <= 99) {
            tick();
            ticks++;
        }
        s = old;
        if (ticks > 99) {
            throw new NoSuchElementException();
        }
        return ticks;
    }

    int members(int district) {
        from0To(2, district);
        int set = 0;
        for (int k = 0; k < n(); k++) {
            set += s.districts.get(k) == district ? 1 << k : 0;
        }
        return set;
    }

    int busiest(int place) {
        List<Integer> order = new ArrayList<>();
        for (int k = 0; k < n(); k++) {
            order.add(k);
        }
        order.sort((one, other) -> {
            int by = Integer.compare(surveyorOf(other, 2), surveyorOf(one, 2));
            return by != 0 ? by : Integer.compare(own(other).serial, own(one).serial);
        });
        if (place < 0 || place >= n()) {
            throw new NoSuchElementException();
        }
        return order.get(place);
    }

    // Commands

    int append(char character) {
        if (text.length() >= 60) {
            throw new IllegalStateException();
        }
        text += character;
        return text.length();
    }

    int commands() {
        String whole = text;
        text = "";
        fault = faultOf(whole);
        if (fault >= 0) {
            throw new IllegalArgumentException();
        }
        String[] commands = whole.split(";");
        return call(() -> {
            for (int index = 0; index < commands.length; index++) {
                try {
                    carryOut(commands[index]);
                } catch (Refused cause) {
                    reason = new int[] {8, index, cause.reason, cause.detail};
                    throw new Refused(8, index);
                }
            }
            return commands.length;
        });
    }

    private static int faultOf(String whole) {
        Matcher all = TEXT.matcher(whole);
        if (all.matches()) {
            return -1;
        }
        for (int length = 1; length <= whole.length(); length++) {
            Matcher part = TEXT.matcher(whole.substring(0, length));
            if (!part.matches() && !part.hitEnd()) {
                return length - 1;
            }
        }
        return whole.length();
    }

    private void carryOut(String command) throws Refused {
        String digits = command.replaceAll("[^0-9]", "");
        int first = digits.isEmpty() ? 0 : digits.charAt(0) - '0';
        int second = digits.length() < 2 ? 0 : digits.charAt(1) - '0';
        switch (command.charAt(0)) {
            case '+' -> doCome();
            case 'c' -> doCanal(first, second, digits.charAt(2) - '0');
            case 'x' -> doClose(first, second);
            case 's' -> doDistrict(first, second);
            case 'l' -> doLose();
            default -> doPass(Integer.parseInt(digits));
        }
    }

    int faultPosition() {
        return fault;
    }

    int reason(boolean isCause, boolean isDetail) {
        int[] kept = there(reason);
        int place = (isCause ? 2 : 0) + (isDetail ? 1 : 0);
        if (place >= kept.length) {
            throw new NoSuchElementException();
        }
        return kept[place];
    }

    // The line and the accounts

    int line(int surveyor) {
        indexes(surveyor);
        List<String> parts = new ArrayList<>();
        for (Page page : s.maps.get(surveyor).values()) {
            StringBuilder part = new StringBuilder(page.origin + ":" + page.serial);
            page.costs.forEach((other, cost) -> part.append("," + other + "=" + cost));
            parts.add(part.toString());
        }
        line = String.join(" ", parts);
        return line.length();
    }

    char character(int index) {
        if (index < 0 || index >= line.length()) {
            throw new IndexOutOfBoundsException();
        }
        return line.charAt(index);
    }

    double meanCost() {
        if (s.canals.isEmpty()) {
            throw new ArithmeticException();
        }
        double sum = 0;
        for (int cost : s.canals.values()) {
            sum += cost;
        }
        return sum / s.canals.size();
    }

    float lostShare() {
        if (s.sent == 0) {
            throw new ArithmeticException();
        }
        return (float) s.lost / (float) s.sent;
    }

    int account(int what) {
        from0To(10, what);
        int pages = 0;
        for (TreeMap<Integer, Page> map : s.maps) {
            pages += map.size();
        }
        return new int[] {s.tick, n(), s.canals.size(), s.letters.size(), s.sent, s.arrived, s.lost, s.made,
            pages, before.size(), text.length()}[what];
    }

    // Undo and the snapshot

    int undo() {
        if (before.isEmpty()) {
            throw new IllegalStateException();
        }
        s = before.remove(before.size() - 1);
        return before.size();
    }

    int save() {
        saved = s.copy();
        return n();
    }

    int restore() {
        if (saved == null) {
            throw new IllegalStateException();
        }
        s = saved.copy();
        before.clear();
        return n();
    }
}
