import java.math.BigInteger;
import java.util.ArrayDeque;
import java.util.ArrayList;
import java.util.Arrays;
import java.util.Deque;
import java.util.List;
import java.util.regex.Matcher;
import java.util.regex.Pattern;

/**
 * The document a second time, as plain as can be: it counts every step, every way, every subset, so
 * that it shares no thought with LadderSurvey. ModelTest compares the two.
 */
final class Model {
    static final int BAD = -1, STATE = -2, FULL = -3, NONE = -9, NO = -1000000;
    private static final Pattern TOKEN = Pattern.compile(" *(?:([0-9]+)|(.))", Pattern.DOTALL);

    private static final class Now {
        int[] at = new int[4];
        boolean[] stays = new boolean[4];
        int[][] wear = new int[2][100];
        List<Integer> things = new ArrayList<>();

        Now copy() {
            Now copy = new Now();
            copy.at = at.clone();
            copy.stays = stays.clone();
            copy.wear = new int[][] {wear[0].clone(), wear[1].clone()};
            copy.things = new ArrayList<>(things);
            return copy;
        }
    }

    private StringBuilder text = new StringBuilder();
    private List<int[]> stretches = new ArrayList<>();
    private List<Integer> breaths = new ArrayList<>();
    private int reach = 3;
    private int boys = 3;
    private Now now = new Now();
    private Now[] images = new Now[2];
    private Deque<Now> past = new ArrayDeque<>();
    private List<int[]> seen = new ArrayList<>();
    private List<int[]> measured = new ArrayList<>();
    private int[] stepHeights = new int[0];
    private long trace;

    int type(int letter) {
        if (letter < 0 || letter > 255) {
            return BAD;
        }
        if (text.length() == 120) {
            return FULL;
        }
        text.append((char) letter);
        return text.length();
    }

    int clear() {
        int letters = text.length();
        text = new StringBuilder();
        return letters;
    }

    /** All tokens first, then the items from them. */
    int ladder() {
        List<String> tokens = new ArrayList<>();
        List<Integer> places = new ArrayList<>();
        Matcher matcher = TOKEN.matcher(text);
        int from = 0;
        while (matcher.find(from) && matcher.start() == from && matcher.end() > from) {
            String token = matcher.group(1) != null ? matcher.group(1) : matcher.group(2);
            int place = matcher.group(1) != null ? matcher.start(1) : matcher.start(2);
            from = matcher.end();
            if (!token.equals(" ")) {
                tokens.add(token);
                places.add(place);
            }
        }
        places.add(text.length());
        Model told = new Model();
        int[] fault = {0};
        int items = told.tellItems(tokens, fault);
        if (items < 0) {
            return -10 - places.get(fault[0]);
        }
        text = new StringBuilder();
        stretches = told.stretches;
        breaths = told.breaths;
        reach = told.reach;
        boys = told.boys;
        now = new Now();
        images = new Now[2];
        past = new ArrayDeque<>();
        seen = new ArrayList<>();
        measured = new ArrayList<>();
        climb();
        return items;
    }

    private int tellItems(List<String> tokens, int[] i) {
        int items = 0;
        int reaches = 0;
        int boysTold = 0;
        while (i[0] < tokens.size()) {
            String head = tokens.get(i[0]);
            boolean fits = head.equals("s") && stretches.size() < 5
                || head.equals("t") && breaths.size() < 4
                || head.equals("r") && reaches == 0
                || head.equals("b") && boysTold == 0;
            if (!fits) {
                return -1;
            }
            int[][] ranges = head.equals("s") ? new int[][] {{1, 20}, {1, 20}, {0, 6}}
                : head.equals("t") ? new int[][] {{1, 99}}
                : head.equals("r") ? new int[][] {{1, 9}} : new int[][] {{2, 9}};
            int[] numbers = new int[3];
            i[0]++;
            for (int n = 0; n < ranges.length; n++, i[0]++) {
                if (i[0] >= tokens.size() || !tokens.get(i[0]).matches("0|[1-9][0-9]?")) {
                    return -1;
                }
                numbers[n] = Integer.parseInt(tokens.get(i[0]));
                if (numbers[n] < ranges[n][0] || numbers[n] > ranges[n][1]) {
                    return -1;
                }
            }
            if (i[0] >= tokens.size() || !tokens.get(i[0]).equals(";")) {
                return -1;
            }
            i[0]++;
            items++;
            switch (head) {
                case "s" -> stretches.add(new int[] {numbers[0], numbers[1], numbers[2] - 3});
                case "t" -> breaths.add(numbers[0]);
                case "r" -> {
                    reach = numbers[0];
                    reaches++;
                }
                default -> {
                    boys = numbers[0];
                    boysTold++;
                }
            }
        }
        return items;
    }

    private void climb() {
        stepHeights = new int[1000 * top()];
        int i = 0;
        for (int[] s : stretches) {
            for (int step = 0; step < 1000 * s[0]; step++) {
                stepHeights[i++] = Math.max(1, s[1] + step / 1000 * s[2]);
            }
        }
    }

    private int top() {
        return landing(stretches.size());
    }

    private int landing(int n) {
        int mark = 0;
        for (int s = 0; s < n; s++) {
            mark += stretches.get(s)[0];
        }
        return mark;
    }

    private boolean noTraveller(int t) {
        return t < 0 || t >= breaths.size();
    }

    private int staying() {
        int n = 0;
        for (boolean s : now.stays) {
            n += s ? 1 : 0;
        }
        return n;
    }

    int stretch(int s, int what) {
        if (s < 0 || s >= stretches.size() || what < 0 || what > 3) {
            return NO;
        }
        return what == 3 ? landing(s + 1) : stretches.get(s)[what];
    }

    int traveller(int t, int what) {
        if (noTraveller(t) || what < 0 || what > 2) {
            return BAD;
        }
        return new int[] {breaths.get(t), now.at[t], now.stays[t] ? 1 : 0}[what];
    }

    int wear(int side, int mark) {
        return side < 0 || side > 1 || mark < 0 || mark >= top() ? BAD : now.wear[side][mark];
    }

    int thing(int i) {
        return i < 0 || i > 5 ? BAD : i >= now.things.size() ? NONE : now.things.get(i);
    }

    int now(int what) {
        switch (what) {
            case 0: return top();
            case 1: return now.things.size();
            case 2: return staying();
            case 3: return Arrays.stream(now.wear[0]).sum() + Arrays.stream(now.wear[1]).sum();
            case 4: return steep();
            case 5: return days(boys);
            case 6: return past.size();
            default: return BAD;
        }
    }

    private int steep() {
        int best = NONE;
        int high = 0;
        for (int i = 0; i < stepHeights.length; i++) {
            if (stepHeights[i] > high) {
                high = stepHeights[i];
                best = i / 1000;
            }
        }
        return best;
    }

    /** Walks up with the poles: an interval at a time, a day at a time. */
    private int days(int boysThere) {
        int intervals = 0;
        for (int[] s : stretches) {
            for (int left = s[0]; left > 0; left -= reach) {
                intervals++;
            }
        }
        int days = 0;
        for (; intervals > 0; intervals -= boysThere - 1) {
            days++;
        }
        return days;
    }

    private void remember() {
        past.addLast(now.copy());
        if (past.size() > 10) {
            past.removeFirst();
        }
    }

    int goes(int t, int mark) {
        if (noTraveller(t) || mark < 0 || mark > top()) {
            return BAD;
        }
        if (now.stays[t] || now.at[t] == mark || mark > breaths.get(t)) {
            return STATE;
        }
        remember();
        int thousands = 0;
        for (; now.at[t] < mark; now.at[t]++, thousands++) {
            now.wear[0][now.at[t]]++;
        }
        for (; now.at[t] > mark; now.at[t]--, thousands++) {
            now.wear[1][now.at[t] - 1]++;
        }
        return thousands;
    }

    int stays(int t) {
        if (noTraveller(t)) {
            return BAD;
        }
        if (now.stays[t]) {
            return STATE;
        }
        remember();
        now.stays[t] = true;
        return staying();
    }

    int loses(int t) {
        if (noTraveller(t)) {
            return BAD;
        }
        if (now.things.size() == 6) {
            return FULL;
        }
        remember();
        now.things.add(now.at[t]);
        return now.things.size();
    }

    int picks(int t) {
        if (noTraveller(t)) {
            return BAD;
        }
        if (now.stays[t] || !now.things.contains(now.at[t])) {
            return STATE;
        }
        remember();
        now.things.remove(Integer.valueOf(now.at[t]));
        return now.things.size();
    }

    int undo() {
        if (past.isEmpty()) {
            return STATE;
        }
        now = past.removeLast();
        return past.size();
    }

    int altitude(int step) {
        return step < 0 || step > stepHeights.length ? BAD : heightOf(step);
    }

    private int heightOf(int step) {
        int sum = 0;
        for (int i = 0; i < step; i++) {
            sum += stepHeights[i];
        }
        return sum;
    }

    int step(int altitude) {
        if (altitude < 0 || altitude > 9999999) {
            return BAD;
        }
        int sum = 0;
        for (int i = 0; i <= stepHeights.length; i++) {
            if (sum >= altitude) {
                return i;
            }
            sum += i < stepHeights.length ? stepHeights[i] : 0;
        }
        return NONE;
    }

    int hands(int days) {
        if (days < 1 || days > 99) {
            return BAD;
        }
        int best = NONE;
        for (int b = 9; b >= 2; b--) {
            best = days(b) <= days ? b : best;
        }
        return best;
    }

    int sees(int mark, int w) {
        if (mark < 0 || mark >= top() || w < 0 || w > 40) {
            return BAD;
        }
        if (seen.size() == 6) {
            return FULL;
        }
        seen.add(new int[] {mark, w});
        return seen.size();
    }

    /** Every way, traveller by traveller. */
    int can(int t) {
        int n = breaths.size();
        if (t < -2 || t >= n) {
            return BAD;
        }
        int ways = 0;
        int fewest = Integer.MAX_VALUE;
        int same = -1;
        boolean unlike = false;
        int all = (int) Math.pow(10, n);
        for (int code = 0; code < all; code++) {
            int[] times = new int[n];
            int sum = 0;
            for (int i = 0, rest = code; i < n; i++, rest /= 10) {
                times[i] = rest % 10;
                sum += times[i];
            }
            if (isAsSeen(times)) {
                ways++;
                fewest = Math.min(fewest, sum);
                unlike |= t >= 0 && same >= 0 && same != times[t];
                same = t >= 0 ? times[t] : -1;
            }
        }
        if (t == -1) {
            return ways;
        }
        if (ways == 0) {
            return NONE;
        }
        return t == -2 ? fewest : unlike ? NONE : same;
    }

    private boolean isAsSeen(int[] times) {
        for (int[] s : seen) {
            int wear = 0;
            for (int i = 0; i < times.length; i++) {
                wear += Math.min(breaths.get(i), top()) >= s[0] + 1 ? times[i] : 0;
            }
            if (wear != s[1]) {
                return false;
            }
        }
        return true;
    }

    int measures(int from, int to, int a) {
        if (from < 0 || from > stretches.size() || to < 0 || to > stretches.size() || to <= from
            || a < 0 || a > 999999) {
            return BAD;
        }
        if (measured.size() == 6) {
            return FULL;
        }
        measured.add(new int[] {from, to, a});
        return measured.size();
    }

    /** Some measures are believed, altitudes follow from them; the best choice of these is taken. */
    int agree(int what) {
        if (what < 0 || what > 1) {
            return BAD;
        }
        long[] truth = new long[stretches.size() + 1];
        for (int i = 0; i < truth.length; i++) {
            truth[i] = heightOf(1000 * landing(i));
        }
        if (what == 1) {
            return (int) off(truth);
        }
        long best = Long.MAX_VALUE;
        for (int believed = 0; believed < 1 << measured.size(); believed++) {
            best = Math.min(best, off(follow(believed, truth.length)));
        }
        return (int) best;
    }

    private long off(long[] altitudes) {
        long off = 0;
        for (int[] m : measured) {
            off += Math.abs(altitudes[m[1]] - altitudes[m[0]] - m[2]);
        }
        return off;
    }

    private long[] follow(int believed, int landings) {
        Long[] altitudes = new Long[landings];
        long[] answer = new long[landings];
        for (int first = 0; first < landings; first++) {
            if (altitudes[first] == null) {
                altitudes[first] = 0L;
            }
            for (int round = 0; round < landings; round++) {
                for (int i = 0; i < measured.size(); i++) {
                    int[] m = measured.get(i);
                    if ((believed >> i & 1) == 0) {
                        continue;
                    }
                    if (altitudes[m[0]] != null && altitudes[m[1]] == null) {
                        altitudes[m[1]] = altitudes[m[0]] + m[2];
                    } else if (altitudes[m[1]] != null && altitudes[m[0]] == null) {
                        altitudes[m[0]] = altitudes[m[1]] - m[2];
                    }
                }
            }
        }
        for (int i = 0; i < landings; i++) {
            answer[i] = altitudes[i];
        }
        return answer;
    }

    int forget() {
        int both = seen.size() + measured.size();
        seen.clear();
        measured.clear();
        return both;
    }

    /** Every owner for every thing, then those that will not do are left out. */
    int whose(int i) {
        int things = now.things.size();
        int n = breaths.size();
        if (i < -1 || i >= things) {
            return BAD;
        }
        int ways = 0;
        boolean[] owners = new boolean[4];
        int all = (int) Math.pow(n, things);
        for (int code = 0; code < all; code++) {
            boolean fits = true;
            int taken = 0;
            int owner = 0;
            for (int j = 0, rest = code; j < things; j++, rest /= n) {
                int t = rest % n;
                fits &= (taken >> t & 1) == 0 && now.things.get(j) <= breaths.get(t);
                taken |= 1 << t;
                owner = j == i ? t : owner;
            }
            if (fits) {
                ways++;
                owners[owner] = true;
            }
        }
        if (i == -1) {
            return ways;
        }
        int sure = NONE;
        int different = 0;
        for (int t = 0; t < 4; t++) {
            sure = owners[t] ? t : sure;
            different += owners[t] ? 1 : 0;
        }
        return different == 1 ? sure : NONE;
    }

    int odds(int x, int k, int what) {
        if (x < 0 || x > 10 || k < 0 || k > 4 || what < 0 || what > 1) {
            return BAD;
        }
        int free = breaths.size() - staying();
        long all = (long) Math.pow(10, free);
        long few = 0;
        for (long code = 0; code < all; code++) {
            int away = 0;
            for (long i = 0, rest = code; i < free; i++, rest /= 10) {
                away += rest % 10 < x ? 1 : 0;
            }
            few += away <= k ? 1 : 0;
        }
        long factor = BigInteger.valueOf(few).gcd(BigInteger.valueOf(all)).longValue();
        return (int) ((what == 0 ? few : all) / factor);
    }

    int rate(int kind, int s) {
        if (kind < 0 || kind > 5 || s < 0 || s >= stretches.size()) {
            return NO;
        }
        int[] stretch = stretches.get(s);
        int on = 0;
        for (int mark : now.things) {
            on += mark >= landing(s) && mark < landing(s + 1) ? 1 : 0;
        }
        trace += new int[] {1, 11, 101, 1011, 10101, 100001}[kind];
        return new int[] {stretch[1], stretch[1] + on, stretch[1] - stretch[0], 2 * (stretch[1] + on),
            stretch[1] - stretch[0] + s, stretch[1] + staying()}[kind];
    }

    int keep(int image) {
        if (image < 0 || image > 1) {
            return BAD;
        }
        images[image] = now.copy();
        return staying();
    }

    int back(int image) {
        if (image < 0 || image > 1) {
            return BAD;
        }
        if (images[image] == null) {
            return STATE;
        }
        now = images[image].copy();
        past.clear();
        return staying();
    }

    int count(int what) {
        int[] counts = {stretches.size(), breaths.size(), reach, boys, seen.size(), measured.size(),
            text.length()};
        return what < 0 || what > 6 ? BAD : counts[what];
    }

    long trace() {
        return trace;
    }
}
