/**
 * A survey of Jacob's ladder: what ../shared/DOC.md promises, in the part of Java 17 that
 * ../shared/LANGUAGE.md leaves. Words in capitals are the document's.
 */
public final class LadderSurvey {
    public static final int BAD = -1, STATE = -2, FULL = -3, NONE = -9;
    public static final int NO = -1000000;

    private static final int MOST_STRETCHES = 5;
    private static final int MOST_LONG = 20;
    private static final int MOST_RISE = 20;
    private static final int MOST_BEND = 3;
    private static final int MOST_TOP = MOST_STRETCHES * MOST_LONG;
    private static final int MOST_TRAVELLERS = 4;
    private static final int MOST_BREATH = 99;
    private static final int MOST_REACH = 9;
    private static final int FIRST_REACH = 3;
    private static final int FEWEST_BOYS = 2;
    private static final int MOST_BOYS = 9;
    private static final int FIRST_BOYS = 3;
    private static final int MOST_LETTERS = 120;
    private static final int MOST_NUMBER = 99;
    private static final int MOST_WEAR = 9999;
    private static final int MOST_THINGS = 6;
    private static final int MOST_DEEDS = 10;
    private static final int MOST_ALTITUDE = 9999999;
    private static final int MOST_DAYS = 99;
    private static final int MOST_SEEN = 6;
    private static final int MOST_SEEN_WEAR = 40;
    private static final int MOST_TIMES = 9;
    private static final int MOST_MEASURED = 6;
    private static final int MOST_MEASURE = 999999;
    private static final int THOUSAND = 1000;

    private static final int STRETCH = 0, FEATHER = 1, BENCH = 2, WING = 3, NAME = 4, CLOUD = 5;
    private static final int GOES = 0, STAYS = 1, LOSES = 2, PICKS = 3;

    private final Text text = new Text();
    private Plan plan = new Plan();
    // A text with a FAULT must change nothing, so it is read into a plan that nobody asks yet.
    private Plan draft = new Plan();
    private final Scene scene = new Scene();
    private final Scene firstImage = new Scene();
    private final Scene secondImage = new Scene();
    private final Row kept = new Row(2);
    private final Deeds deeds = new Deeds();
    private final Seen seen = new Seen();
    private final Measures measured = new Measures();
    private long trace;

    public LadderSurvey() {
    }

    // ---- the ladder

    public int type(int letter) {
        if (letter < 0 || letter > 255) {
            return BAD;
        }
        if (text.letters.isFull()) {
            return FULL;
        }
        text.letters.push(letter);
        return text.letters.size();
    }

    public int clear() {
        int letters = text.letters.size();
        text.letters.empty();
        return letters;
    }

    public int ladder() {
        int items = text.readInto(draft);
        if (items < 0) {
            return items;
        }
        Plan told = draft;
        draft = plan;
        plan = told;
        text.letters.empty();
        scene.begin();
        kept.empty();
        deeds.empty();
        seen.empty();
        measured.empty();
        return items;
    }

    public int stretch(int s, int what) {
        if (!plan.hasStretch(s)) {
            return NO;
        }
        switch (what) {
            case 0:
                return plan.longs.at(s);
            case 1:
                return plan.rises.at(s);
            case 2:
                return plan.bends.at(s);
            case 3:
                return plan.landingMark(s + 1);
            default:
                return NO;
        }
    }

    public int traveller(int t, int what) {
        if (!plan.hasTraveller(t)) {
            return BAD;
        }
        switch (what) {
            case 0:
                return plan.breaths.at(t);
            case 1:
                return scene.places.at(t);
            case 2:
                return scene.stayed.at(t);
            default:
                return BAD;
        }
    }

    public int wear(int side, int mark) {
        if (side < 0 || side > 1 || !plan.hasThousand(mark)) {
            return BAD;
        }
        return scene.wearOf(side, mark);
    }

    public int thing(int i) {
        if (i < 0 || i >= MOST_THINGS) {
            return BAD;
        }
        return i < scene.things.size() ? scene.things.at(i) : NONE;
    }

    public int now(int what) {
        switch (what) {
            case 0:
                return plan.topMark();
            case 1:
                return scene.things.size();
            case 2:
                return scene.staying();
            case 3:
                return scene.allWear();
            case 4:
                return plan.steepest();
            case 5:
                return plan.daysWith(plan.boys);
            case 6:
                return deeds.known();
            default:
                return BAD;
        }
    }

    // ---- what is done

    public int goes(int t, int mark) {
        if (!plan.hasTraveller(t) || mark < 0 || mark > plan.topMark()) {
            return BAD;
        }
        int from = scene.places.at(t);
        if (scene.hasStayed(t) || mark == from || mark > plan.breaths.at(t)) {
            return STATE;
        }
        scene.wearWay(from, mark, 1);
        scene.places.put(t, mark);
        deeds.add(GOES, t, from);
        return Math.abs(mark - from);
    }

    public int stays(int t) {
        if (!plan.hasTraveller(t)) {
            return BAD;
        }
        if (scene.hasStayed(t)) {
            return STATE;
        }
        scene.stayed.put(t, 1);
        deeds.add(STAYS, t, 0);
        return scene.staying();
    }

    public int loses(int t) {
        if (!plan.hasTraveller(t)) {
            return BAD;
        }
        if (scene.things.isFull()) {
            return FULL;
        }
        scene.things.push(scene.places.at(t));
        deeds.add(LOSES, t, 0);
        return scene.things.size();
    }

    public int picks(int t) {
        if (!plan.hasTraveller(t)) {
            return BAD;
        }
        int spot = scene.firstThingAt(scene.places.at(t));
        if (scene.hasStayed(t) || spot < 0) {
            return STATE;
        }
        scene.things.remove(spot);
        deeds.add(PICKS, t, spot);
        return scene.things.size();
    }

    public int undo() {
        if (deeds.known() == 0) {
            return STATE;
        }
        deeds.takeBackLatest(scene);
        return deeds.known();
    }

    // ---- heights

    public int altitude(int step) {
        if (step < 0 || step > THOUSAND * plan.topMark()) {
            return BAD;
        }
        return plan.altitudeOf(step);
    }

    public int step(int altitude) {
        if (altitude < 0 || altitude > MOST_ALTITUDE) {
            return BAD;
        }
        return plan.firstStepAt(altitude);
    }

    public int hands(int days) {
        if (days < 1 || days > MOST_DAYS) {
            return BAD;
        }
        for (int boys = FEWEST_BOYS; boys <= MOST_BOYS; boys++) {
            if (plan.daysWith(boys) <= days) {
                return boys;
            }
        }
        return NONE;
    }

    // ---- wear, measures

    public int sees(int mark, int w) {
        if (!plan.hasThousand(mark) || w < 0 || w > MOST_SEEN_WEAR) {
            return BAD;
        }
        if (seen.wears.isFull()) {
            return FULL;
        }
        seen.add(plan.climbersAbove(mark), w);
        return seen.wears.size();
    }

    public int can(int t) {
        if (t < -2 || t >= plan.breaths.size()) {
            return BAD;
        }
        int travellers = plan.breaths.size();
        if (t == -1) {
            return seen.countWays(travellers, -1, 0);
        }
        if (t == -2) {
            return seen.fewestGoings(travellers);
        }
        return seen.timesInAll(travellers, plan.rankOf(t));
    }

    public int measures(int from, int to, int a) {
        if (!plan.hasLanding(from) || !plan.hasLanding(to) || to <= from) {
            return BAD;
        }
        if (a < 0 || a > MOST_MEASURE) {
            return BAD;
        }
        if (measured.heights.isFull()) {
            return FULL;
        }
        measured.add(from, to, a);
        return measured.heights.size();
    }

    public int agree(int what) {
        switch (what) {
            case 0:
                return measured.leastChange();
            case 1:
                return measured.offBy(plan);
            default:
                return BAD;
        }
    }

    public int forget() {
        int both = seen.wears.size() + measured.heights.size();
        seen.empty();
        measured.empty();
        return both;
    }

    // ---- things, odds

    public int whose(int i) {
        if (i < -1 || i >= scene.things.size()) {
            return BAD;
        }
        int ways = countOwners(scene.things, plan.breaths, 0, 0, -1, 0);
        if (i == -1) {
            return ways;
        }
        for (int t = 0; t < plan.breaths.size() && ways > 0; t++) {
            if (countOwners(scene.things, plan.breaths, 0, 0, i, t) == ways) {
                return t;
            }
        }
        return NONE;
    }

    public int odds(int x, int k, int what) {
        if (x < 0 || x > 10 || k < 0 || k > MOST_TRAVELLERS || what < 0 || what > 1) {
            return BAD;
        }
        int free = plan.breaths.size() - scene.staying();
        int upper = countAway(x, k, free);
        int lower = power(10, free);
        int factor = commonFactor(upper, lower);
        if (factor < 1) {
            return BAD;
        }
        return what == 0 ? upper / factor : lower / factor;
    }

    // ---- kinds, images

    public int rate(int kind, int s) {
        if (!plan.hasStretch(s)) {
            return NO;
        }
        switch (kind) {
            case STRETCH:
                return rateStretch(s);
            case FEATHER:
                return rateFeather(s);
            case BENCH:
                return rateBench(s);
            case WING:
                return rateWing(s);
            case NAME:
                return rateName(s);
            case CLOUD:
                return rateCloud(s);
            default:
                return NO;
        }
    }

    public int keep(int image) {
        if (image < 0 || image > 1) {
            return BAD;
        }
        imageOf(image).copy(scene);
        kept.put(image, 1);
        return scene.staying();
    }

    public int back(int image) {
        if (image < 0 || image > 1) {
            return BAD;
        }
        if (kept.at(image) == 0) {
            return STATE;
        }
        scene.copy(imageOf(image));
        deeds.empty();
        return scene.staying();
    }

    public int count(int what) {
        switch (what) {
            case 0:
                return plan.longs.size();
            case 1:
                return plan.breaths.size();
            case 2:
                return plan.reach;
            case 3:
                return plan.boys;
            case 4:
                return seen.wears.size();
            case 5:
                return measured.heights.size();
            case 6:
                return text.letters.size();
            default:
                return BAD;
        }
    }

    public long trace() {
        return trace;
    }

    // ---- the bodies of the KINDS: one method each, so that THE TRACE counts each one asked

    private int rateStretch(int s) {
        trace += 1;
        return plan.rises.at(s);
    }

    private int rateFeather(int s) {
        trace += 10;
        return rateStretch(s) + scene.thingsBetween(plan.landingMark(s), plan.landingMark(s + 1));
    }

    private int rateBench(int s) {
        trace += 100;
        return rateStretch(s) - plan.longs.at(s);
    }

    private int rateWing(int s) {
        trace += 1000;
        return 2 * rateFeather(s);
    }

    private int rateName(int s) {
        trace += 10000;
        return rateBench(s) + s;
    }

    private int rateCloud(int s) {
        trace += 100000;
        return rateStretch(s) + scene.staying();
    }

    private Scene imageOf(int image) {
        return image == 0 ? firstImage : secondImage;
    }

    // ---- counting

    /**
     * In how many ways the things from the i-th on can be of TRAVELLERS who are not among those
     * taken (a bit each), the fixed one (-1: none is fixed) being of its owner.
     */
    private static int countOwners(Row things, Row breaths, int i, int taken, int fixed, int owner) {
        if (i >= things.size()) {
            return 1;
        }
        int ways = 0;
        for (int t = 0; t < breaths.size(); t++) {
            boolean unlike = (taken & (1 << t)) == 0;
            boolean told = i != fixed || t == owner;
            if (unlike && told && breaths.at(t) >= things.at(i)) {
                ways += countOwners(things, breaths, i + 1, taken | (1 << t), fixed, owner);
            }
        }
        return ways;
    }

    /** Of 10 to the power of free, equally likely, in how many k at most stay away. */
    private static int countAway(int x, int k, int free) {
        int ways = 0;
        for (int away = 0; away < (1 << free); away++) {
            int many = Integer.bitCount(away);
            if (many <= k) {
                ways += power(x, many) * power(10 - x, free - many);
            }
        }
        return ways;
    }

    private static int power(int base, int exponent) {
        int product = 1;
        for (int i = 0; i < exponent; i++) {
            product *= base;
        }
        return product;
    }

    private static int commonFactor(int a, int b) {
        int factor = a;
        int rest = b;
        // Each two rounds halve the rest at least: 64 rounds are enough for any int.
        for (int i = 0; i < 64 && rest != 0; i++) {
            int next = factor % rest;
            factor = rest;
            rest = next;
        }
        return factor;
    }

    private static int divideUp(int whole, int part) {
        return part < 1 ? 0 : (whole + part - 1) / part;
    }

    /**
     * Numbers in a room of a fixed length, all 0 at first. No index can be wrong: beyond the room
     * at() tells 0 and nothing is put. push(), insert() and remove() keep a list at its beginning.
     */
    private static final class Row {
        private final int[] cells;
        private int size;

        Row(int room) {
            cells = new int[Math.max(0, room)];
        }

        int size() {
            return size;
        }

        boolean isFull() {
            return size >= cells.length;
        }

        int at(int i) {
            return i < 0 || i >= cells.length ? 0 : cells[i];
        }

        void put(int i, int number) {
            if (i >= 0 && i < cells.length) {
                cells[i] = number;
            }
        }

        void push(int number) {
            if (!isFull()) {
                put(size, number);
                size++;
            }
        }

        void insert(int i, int number) {
            if (isFull() || i < 0 || i > size) {
                return;
            }
            for (int j = size; j > i; j--) {
                put(j, at(j - 1));
            }
            put(i, number);
            size++;
        }

        void remove(int i) {
            if (i < 0 || i >= size) {
                return;
            }
            size--;
            for (int j = i; j < size; j++) {
                put(j, at(j + 1));
            }
            put(size, 0);
        }

        void empty() {
            for (int i = 0; i < cells.length; i++) {
                cells[i] = 0;
            }
            size = 0;
        }

        void copy(Row other) {
            for (int i = 0; i < cells.length; i++) {
                cells[i] = other.at(i);
            }
            size = Math.min(cells.length, other.size);
        }

        int sum() {
            int sum = 0;
            for (int i = 0; i < cells.length; i++) {
                sum += cells[i];
            }
            return sum;
        }
    }

    /** THE TEXT, and how it is read, TOKEN by TOKEN. */
    private static final class Text {
        // Tokens are letters (0 .. 255) or one of these.
        private static final int NUMBER = 256, END = 257;

        final Row letters = new Row(MOST_LETTERS);
        private int place;
        private int token;
        private int tokenPlace;
        private int number;
        private boolean reachTold;
        private boolean boysTold;

        /** How many ITEMS; -10 less FAULT. */
        int readInto(Plan plan) {
            plan.begin();
            place = 0;
            reachTold = false;
            boysTold = false;
            nextToken();
            for (int items = 0; items <= MOST_LETTERS; items++) {
                if (token == END) {
                    return items;
                }
                if (!readItem(plan)) {
                    break;
                }
                nextToken();
            }
            return -10 - tokenPlace;
        }

        /** False: the token where the reading stopped can't stand there. */
        private boolean readItem(Plan plan) {
            switch (token) {
                case 's':
                    return !plan.longs.isFull() && readStretch(plan);
                case 't':
                    return !plan.breaths.isFull() && readTraveller(plan);
                case 'r':
                    return !reachTold && readReach(plan);
                case 'b':
                    return !boysTold && readBoys(plan);
                default:
                    return false;
            }
        }

        private boolean readStretch(Plan plan) {
            if (!readNumber(1, MOST_LONG)) {
                return false;
            }
            int thousands = number;
            if (!readNumber(1, MOST_RISE)) {
                return false;
            }
            int rise = number;
            if (!readNumber(0, 2 * MOST_BEND)) {
                return false;
            }
            plan.addStretch(thousands, rise, number - MOST_BEND);
            return readItemEnd();
        }

        private boolean readTraveller(Plan plan) {
            if (!readNumber(1, MOST_BREATH)) {
                return false;
            }
            plan.breaths.push(number);
            return readItemEnd();
        }

        private boolean readReach(Plan plan) {
            if (!readNumber(1, MOST_REACH)) {
                return false;
            }
            plan.reach = number;
            reachTold = true;
            return readItemEnd();
        }

        private boolean readBoys(Plan plan) {
            if (!readNumber(FEWEST_BOYS, MOST_BOYS)) {
                return false;
            }
            plan.boys = number;
            boysTold = true;
            return readItemEnd();
        }

        private boolean readNumber(int least, int most) {
            nextToken();
            return token == NUMBER && number >= least && number <= most;
        }

        private boolean readItemEnd() {
            nextToken();
            return token == ';';
        }

        private void nextToken() {
            while (place < letters.size() && letters.at(place) == ' ') {
                place++;
            }
            tokenPlace = place;
            if (place >= letters.size()) {
                token = END;
                return;
            }
            token = letters.at(place);
            if (!isDigit(token)) {
                place++;
                return;
            }
            number = 0;
            while (place < letters.size() && isDigit(letters.at(place))) {
                // However many digits there are, above 99 one wrong number is as good as another.
                number = Math.min(MOST_NUMBER + 1, 10 * number + letters.at(place) - '0');
                place++;
            }
            boolean zeroAhead = token == '0' && place > tokenPlace + 1;
            if (zeroAhead || number > MOST_NUMBER) {
                number = -1;
            }
            token = NUMBER;
        }

        private static boolean isDigit(int letter) {
            return letter >= '0' && letter <= '9';
        }
    }

    /** What THE TEXT tells: STRETCHES, TRAVELLERS, REACH, BOYS. */
    private static final class Plan {
        final Row longs = new Row(MOST_STRETCHES);
        final Row rises = new Row(MOST_STRETCHES);
        final Row bends = new Row(MOST_STRETCHES);
        private final Row uppers = new Row(MOST_STRETCHES);
        // How high the steps of each thousand are, from the foot on.
        private final Row heights = new Row(MOST_TOP);
        final Row breaths = new Row(MOST_TRAVELLERS);
        int reach = FIRST_REACH;
        int boys = FIRST_BOYS;

        void begin() {
            longs.empty();
            rises.empty();
            bends.empty();
            uppers.empty();
            heights.empty();
            breaths.empty();
            reach = FIRST_REACH;
            boys = FIRST_BOYS;
        }

        void addStretch(int thousands, int rise, int bend) {
            longs.push(thousands);
            rises.push(rise);
            bends.push(bend);
            for (int q = 0; q < thousands; q++) {
                heights.push(Math.max(1, rise + q * bend));
            }
            uppers.push(heights.size());
        }

        boolean hasStretch(int s) {
            return s >= 0 && s < longs.size();
        }

        boolean hasTraveller(int t) {
            return t >= 0 && t < breaths.size();
        }

        boolean hasThousand(int mark) {
            return mark >= 0 && mark < heights.size();
        }

        boolean hasLanding(int landing) {
            return landing >= 0 && landing <= longs.size();
        }

        int topMark() {
            return heights.size();
        }

        int landingMark(int landing) {
            return uppers.at(landing - 1);
        }

        int altitudeOf(int step) {
            int altitude = 0;
            for (int mark = 0; mark < heights.size(); mark++) {
                int steps = Math.max(0, Math.min(THOUSAND, step - THOUSAND * mark));
                altitude += steps * heights.at(mark);
            }
            return altitude;
        }

        int firstStepAt(int altitude) {
            int below = 0;
            for (int mark = 0; mark < heights.size() && below < altitude; mark++) {
                int above = below + THOUSAND * heights.at(mark);
                if (altitude <= above) {
                    return THOUSAND * mark + divideUp(altitude - below, heights.at(mark));
                }
                below = above;
            }
            return altitude == 0 ? 0 : NONE;
        }

        int steepest() {
            int steepest = NONE;
            for (int mark = 0; mark < heights.size(); mark++) {
                if (steepest == NONE || heights.at(mark) > heights.at(steepest)) {
                    steepest = mark;
                }
            }
            return steepest;
        }

        int daysWith(int boysThere) {
            int intervals = 0;
            for (int s = 0; s < longs.size(); s++) {
                intervals += divideUp(longs.at(s), reach);
            }
            return divideUp(intervals, boysThere - 1);
        }

        /** How many TRAVELLERS go over the thousand above a MARK, as high as they can. */
        int climbersAbove(int mark) {
            int climbers = 0;
            for (int t = 0; t < breaths.size(); t++) {
                if (breaths.at(t) > mark) {
                    climbers++;
                }
            }
            return climbers;
        }

        /** How many are ahead of a TRAVELLER, in an order in which nobody is behind a weaker one. */
        int rankOf(int t) {
            int ahead = 0;
            for (int u = 0; u < breaths.size(); u++) {
                if (breaths.at(u) > breaths.at(t) || (breaths.at(u) == breaths.at(t) && u < t)) {
                    ahead++;
                }
            }
            return ahead;
        }
    }

    /** What is NOW, and what an IMAGE keeps of it. */
    private static final class Scene {
        final Row places = new Row(MOST_TRAVELLERS);
        final Row stayed = new Row(MOST_TRAVELLERS);
        // Every going is counted, beyond MOST_WEAR too: so undo() finds what was there before.
        private final Row left = new Row(MOST_TOP);
        private final Row right = new Row(MOST_TOP);
        final Row things = new Row(MOST_THINGS);

        void begin() {
            places.empty();
            stayed.empty();
            left.empty();
            right.empty();
            things.empty();
        }

        void copy(Scene other) {
            places.copy(other.places);
            stayed.copy(other.stayed);
            left.copy(other.left);
            right.copy(other.right);
            things.copy(other.things);
        }

        boolean hasStayed(int t) {
            return stayed.at(t) != 0;
        }

        int staying() {
            return stayed.sum();
        }

        /** By is 1 for a way that is gone, -1 for one that is undone. */
        void wearWay(int from, int to, int by) {
            Row side = from < to ? left : right;
            int end = Math.max(from, to);
            for (int mark = Math.min(from, to); mark < end; mark++) {
                side.put(mark, side.at(mark) + by);
            }
        }

        int wearOf(int side, int mark) {
            return Math.min(MOST_WEAR, side == 0 ? left.at(mark) : right.at(mark));
        }

        int allWear() {
            int all = 0;
            for (int mark = 0; mark < MOST_TOP; mark++) {
                all += wearOf(0, mark) + wearOf(1, mark);
            }
            return all;
        }

        /** Of the things at a MARK the one that lies longest; -1. */
        int firstThingAt(int mark) {
            for (int i = 0; i < things.size(); i++) {
                if (things.at(i) == mark) {
                    return i;
                }
            }
            return -1;
        }

        int thingsBetween(int lower, int upper) {
            int there = 0;
            for (int i = 0; i < things.size(); i++) {
                if (things.at(i) >= lower && things.at(i) < upper) {
                    there++;
                }
            }
            return there;
        }
    }

    /** What may be UNDONE, the oldest first. */
    private static final class Deeds {
        private final Row kinds = new Row(MOST_DEEDS);
        private final Row travellers = new Row(MOST_DEEDS);
        // GOES: the MARK from where; PICKS: how many things lay longer.
        private final Row details = new Row(MOST_DEEDS);

        int known() {
            return kinds.size();
        }

        void empty() {
            kinds.empty();
            travellers.empty();
            details.empty();
        }

        void add(int kind, int t, int detail) {
            if (kinds.isFull()) {
                drop(0);
            }
            kinds.push(kind);
            travellers.push(t);
            details.push(detail);
        }

        void takeBackLatest(Scene scene) {
            int latest = kinds.size() - 1;
            int t = travellers.at(latest);
            int detail = details.at(latest);
            switch (kinds.at(latest)) {
                case GOES:
                    scene.wearWay(detail, scene.places.at(t), -1);
                    scene.places.put(t, detail);
                    break;
                case STAYS:
                    scene.stayed.put(t, 0);
                    break;
                case LOSES:
                    scene.things.remove(scene.things.size() - 1);
                    break;
                case PICKS:
                    // All that came later is undone already: he is where he picked it up.
                    scene.things.insert(detail, scene.places.at(t));
                    break;
                default:
                    break;
            }
            drop(latest);
        }

        private void drop(int i) {
            kinds.remove(i);
            travellers.remove(i);
            details.remove(i);
        }
    }

    /**
     * What was SEEN. Whoever goes over a thousand goes over all below it, too: ranked by BREATH,
     * the strongest ahead, WEAR above a MARK is what the first few TRAVELLERS go together. So it is
     * enough to know of how many the sum is, and ways are counted by the sums of the first ones.
     */
    private static final class Seen {
        private final Row climbers = new Row(MOST_SEEN);
        final Row wears = new Row(MOST_SEEN);
        // By each sum, in how many ways the first TRAVELLERS go so often together.
        private final Row ways = new Row(MOST_SEEN_WEAR + 1);

        void empty() {
            climbers.empty();
            wears.empty();
        }

        void add(int howMany, int wear) {
            climbers.push(howMany);
            wears.push(wear);
        }

        /** All ways in which the one of a rank (-1: none) goes so many times. */
        int countWays(int travellers, int rank, int times) {
            ways.empty();
            ways.put(0, 1);
            dropUnlikeSeen(0);
            for (int r = 0; r < travellers; r++) {
                boolean told = r == rank;
                addGoings(told ? times : 0, told ? times : MOST_TIMES);
                dropUnlikeSeen(r + 1);
            }
            return ways.sum();
        }

        int fewestGoings(int travellers) {
            countWays(travellers, -1, 0);
            for (int sum = 0; sum <= MOST_SEEN_WEAR; sum++) {
                if (ways.at(sum) > 0) {
                    return sum;
                }
            }
            return NONE;
        }

        int timesInAll(int travellers, int rank) {
            int all = countWays(travellers, -1, 0);
            for (int times = 0; times <= MOST_TIMES && all > 0; times++) {
                if (countWays(travellers, rank, times) == all) {
                    return times;
                }
            }
            return NONE;
        }

        private void addGoings(int least, int most) {
            // From the greatest sum down, for a sum is made of smaller ones as they were before.
            for (int sum = MOST_SEEN_WEAR; sum >= 0; sum--) {
                int total = 0;
                for (int times = least; times <= most; times++) {
                    total += ways.at(sum - times);
                }
                ways.put(sum, total);
            }
        }

        private void dropUnlikeSeen(int first) {
            for (int i = 0; i < wears.size(); i++) {
                if (climbers.at(i) == first) {
                    keepOnly(wears.at(i));
                }
            }
        }

        private void keepOnly(int sum) {
            int there = ways.at(sum);
            ways.empty();
            ways.put(sum, there);
        }
    }

    /** What was MEASURED. */
    private static final class Measures {
        private final Row froms = new Row(MOST_MEASURED);
        private final Row tos = new Row(MOST_MEASURED);
        final Row heights = new Row(MOST_MEASURED);
        private final Row balance = new Row(MOST_STRETCHES + 1);

        void empty() {
            froms.empty();
            tos.empty();
            heights.empty();
        }

        void add(int from, int to, int height) {
            froms.push(from);
            tos.push(to);
            heights.push(height);
        }

        int offBy(Plan plan) {
            int off = 0;
            for (int i = 0; i < heights.size(); i++) {
                int lower = plan.altitudeOf(THOUSAND * plan.landingMark(froms.at(i)));
                int upper = plan.altitudeOf(THOUSAND * plan.landingMark(tos.at(i)));
                off += Math.abs(upper - lower - heights.at(i));
            }
            return off;
        }

        /**
         * Round trips, each measure gone up, down or not at all, show what does not agree: however
         * ALTITUDES are, so much must be changed on them, and (by the duality of linear programs,
         * whose corners are whole here) the worst of them tells the least change that is enough.
         */
        int leastChange() {
            int most = 0;
            int choices = power(3, heights.size());
            for (int choice = 0; choice < choices; choice++) {
                most = Math.max(most, gapOf(choice));
            }
            return most;
        }

        /** By how much round trips fail to close; 0 for ways that are none. */
        private int gapOf(int choice) {
            balance.empty();
            int gap = 0;
            int rest = choice;
            for (int i = 0; i < heights.size(); i++) {
                int way = rest % 3 - 1;
                rest /= 3;
                gap += way * heights.at(i);
                balance.put(froms.at(i), balance.at(froms.at(i)) - way);
                balance.put(tos.at(i), balance.at(tos.at(i)) + way);
            }
            for (int landing = 0; landing <= MOST_STRETCHES; landing++) {
                if (balance.at(landing) != 0) {
                    return 0;
                }
            }
            return gap;
        }
    }
}
