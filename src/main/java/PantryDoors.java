/**
 * A house with goods that are brought, missed and used day by day, and a pantry door that gives on an
 * earlier day. The numbered promises of the document say what each call answers.
 */
public final class PantryDoors {
    public static final int BAD = -1, STATE = -2, FULL = -3, NONE = -9;
    public static final int NO = -1000000;

    private static final int DAYS = 20;
    private static final int GOODS = 4;
    private static final int MOST_THERE = 999;
    private static final int MOST_LAW = 9;
    private static final int EVERY_AT_FIRST = 2;
    private static final int BACK_AT_FIRST = 3;
    private static final int MOST_TAKEN = 30;
    private static final int MOST_BOUGHT = 9;
    private static final int MOST_FED = 6;
    private static final int MOST_WEIGHT = 60;
    private static final int MOST_TOLD = 4;
    private static final int MOST_STICKS = 10;
    private static final int MOST_ODDS = 9;
    private static final int IMAGES = 2;
    private static final int LOADS = MOST_WEIGHT + 1;
    private static final int LACK = -1;
    private static final int FAULT = -10;

    private final Text text = new Text();
    private final Life life = new Life();
    private final Life[] images = new Life[IMAGES];
    private final boolean[] kept = new boolean[IMAGES];
    private final int[] seenGood = new int[MOST_TOLD];
    private final int[] seenThere = new int[MOST_TOLD];
    private final int[] gaveDay = new int[MOST_TOLD];
    private final int[] gaveTo = new int[MOST_TOLD];
    private final int[] best = new int[(GOODS + 1) * LOADS];
    private final Plan plan = new Plan();
    private final Good[] kinds = {new Good(), new Sugar(), new Ham(), new Cone(), new Jelly(), new Candle()};
    // Two houses, so that a text with a fault in it leaves the one that is lived in alone.
    private House told = new House();
    private House draft = new House();
    private int seen;
    private int gaves;

    public PantryDoors() {
        for (int i = 0; i < IMAGES; i++) {
            images[i] = new Life();
        }
    }

    // ---- the house

    public int type(int c) {
        if (!within(c, 0, 255)) {
            return BAD;
        }
        if (text.length >= Text.MOST) {
            return FULL;
        }
        text.bytes[text.length] = c;
        text.length++;
        return text.length;
    }

    public int clear() {
        int had = text.length;
        text.length = 0;
        return had;
    }

    public int house() {
        int items = text.tell(draft);
        if (items < 0) {
            return items;
        }
        House before = told;
        told = draft;
        draft = before;
        told.reckonStores();
        life.begin(told);
        text.length = 0;
        seen = 0;
        gaves = 0;
        for (int i = 0; i < IMAGES; i++) {
            kept[i] = false;
        }
        return items;
    }

    public int good(int g, int what) {
        if (!told.has(g)) {
            return BAD;
        }
        switch (what) {
            case 0: return told.first[g];
            case 1: return told.use[g];
            case 2: return told.weight[g];
            case 3: return told.worth[g];
            case 4: return life.now.there[g];
            case 5: return life.now.lacked[g];
            case 6: return life.now.open(told, g);
            default: return BAD;
        }
    }

    public int day(int d, int g, int what) {
        if (!within(d, 0, DAYS - 1) || !told.has(g)) {
            return BAD;
        }
        switch (what) {
            case 0: return told.brought[d * GOODS + g];
            case 1: return told.missed[d * GOODS + g];
            case 2: return life.now.taken[d * GOODS + g];
            default: return BAD;
        }
    }

    // ---- what is done

    public int goes() {
        if (life.now.day >= DAYS) {
            return STATE;
        }
        life.remember();
        return life.now.pass(told);
    }

    public int takes(int g, int n) {
        if (!told.has(g) || !within(n, 1, MOST_TAKEN)) {
            return BAD;
        }
        int from = life.now.leads(told);
        if (from == NONE || n > life.now.open(told, g)) {
            return STATE;
        }
        life.remember();
        life.now.taken[from * GOODS + g] += n;
        return life.now.add(g, n);
    }

    public int buys(int g, int n) {
        if (!told.has(g) || !within(n, 1, MOST_BOUGHT)) {
            return BAD;
        }
        if (life.now.there[g] >= MOST_THERE) {
            return STATE;
        }
        life.remember();
        return life.now.add(g, n);
    }

    public int holds(int is) {
        if (!within(is, 0, 1)) {
            return BAD;
        }
        if (life.now.held == (is == 1)) {
            return STATE;
        }
        life.remember();
        life.now.held = is == 1;
        return life.now.leads(told);
    }

    public int undo() {
        if (life.known <= 0) {
            return STATE;
        }
        life.recall();
        return life.known;
    }

    public int now(int what) {
        switch (what) {
            case 0: return life.now.day;
            case 1: return life.now.leads(told);
            case 2: return life.now.held ? 1 : 0;
            case 3: return sum(life.now.lacked);
            case 4: return sum(life.now.taken);
            case 5: return firstLack();
            default: return BAD;
        }
    }

    private int firstLack() {
        int first = DAYS;
        for (int g = 0; g < told.goods; g++) {
            int there = life.now.there[g];
            for (int d = life.now.day; d < first; d++) {
                there = told.rest(there, d, g);
                if (there == LACK) {
                    first = d;
                }
            }
        }
        return first < DAYS ? first : NONE;
    }

    // ---- the door, hunger

    public int gives(int d, int what) {
        if (!within(d, 0, DAYS - 1)) {
            return BAD;
        }
        switch (what) {
            case 0: return told.leads(d);
            case 1: return steps(d);
            case 2: return meetings(d);
            default: return BAD;
        }
    }

    private int steps(int d) {
        int at = told.leads(d);
        int steps = 0;
        // Each step goes at least one day back.
        while (at != NONE && steps < DAYS) {
            steps++;
            at = told.leads(at);
        }
        return steps;
    }

    private int meetings(int d) {
        int met = told.leads(d) == NONE ? 0 : 1;
        for (int other = 0; other < DAYS; other++) {
            if (told.leads(other) == d) {
                met++;
            }
        }
        return met;
    }

    public int hungry(int g, int n) {
        if (!told.has(g) || !within(n, 1, DAYS)) {
            return BAD;
        }
        int there = life.now.there[g];
        int end = Math.min(DAYS, life.now.day + n);
        int times = 0;
        for (int d = life.now.day; d < end; d++) {
            there = told.rest(there, d, g);
            if (there == LACK) {
                times++;
                there = 0;
            }
        }
        return times;
    }

    public int fed(int n, int k) {
        if (!within(n, 1, MOST_FED) || !within(k, -1, MOST_FED - 1)) {
            return BAD;
        }
        int takings = plan.reckon(told, life.now, n);
        if (takings == NONE || k == -1) {
            return takings;
        }
        return k < plan.length ? plan.choice[k] : NONE;
    }

    public int carry(int weight, int g) {
        if (!within(weight, 0, MOST_WEIGHT) || g != -1 && !told.has(g)) {
            return BAD;
        }
        if (life.now.leads(told) == NONE) {
            return NONE;
        }
        reckonLoads(weight);
        if (g == -1) {
            return best[weight];
        }
        int left = weight;
        for (int ahead = 0; ahead < g; ahead++) {
            left -= leastCarried(ahead, left) * told.weight[ahead];
        }
        return leastCarried(g, left);
    }

    /** For each weight, how much worth the goods from each one on can have together. */
    private void reckonLoads(int weight) {
        for (int w = 0; w <= weight; w++) {
            best[told.goods * LOADS + w] = 0;
        }
        for (int g = told.goods - 1; g >= 0; g--) {
            int open = life.now.open(told, g);
            for (int w = 0; w <= weight; w++) {
                int most = 0;
                for (int n = 0; n <= open && n * told.weight[g] <= w; n++) {
                    most = Math.max(most, worthWith(g, n, w));
                }
                best[g * LOADS + w] = most;
            }
        }
    }

    private int worthWith(int g, int n, int weight) {
        return n * told.worth[g] + best[(g + 1) * LOADS + weight - n * told.weight[g]];
    }

    /** The least of a good by which the most worth can still be had. */
    private int leastCarried(int g, int weight) {
        int open = life.now.open(told, g);
        for (int n = 0; n <= open && n * told.weight[g] <= weight; n++) {
            if (worthWith(g, n, weight) == best[g * LOADS + weight]) {
                return n;
            }
        }
        return 0;
    }

    public int odds(int x, int n, int what) {
        if (!within(x, 0, MOST_STICKS) || !within(n, 0, MOST_ODDS) || !within(what, 0, 1)) {
            return BAD;
        }
        int all = 1;
        int sticks = 1;
        for (int i = 0; i < n; i++) {
            all *= MOST_STICKS;
            sticks *= x;
        }
        // The lower number is a power of ten: no other factors can be in both.
        int common = commonFactors(all - sticks, all, 2, n) * commonFactors(all - sticks, all, 5, n);
        if (common < 1) {
            return BAD;
        }
        return (what == 0 ? all - sticks : all) / common;
    }

    private static int commonFactors(int a, int b, int factor, int times) {
        int power = 1;
        for (int i = 0; i < times; i++) {
            int next = power * factor;
            if (next < 1 || a % next != 0 || b % next != 0) {
                return power;
            }
            power = next;
        }
        return power;
    }

    // ---- which day, which law

    public int store(int d, int g) {
        if (!within(d, 0, DAYS) || !told.has(g)) {
            return BAD;
        }
        return told.stores[d * GOODS + g];
    }

    public int saw(int g, int n) {
        if (!told.has(g) || !within(n, 0, MOST_THERE)) {
            return BAD;
        }
        if (seen >= MOST_TOLD) {
            return FULL;
        }
        seenGood[seen] = g;
        seenThere[seen] = n;
        seen++;
        return seen;
    }

    public int days() {
        int bits = 0;
        for (int d = 0; d <= DAYS; d++) {
            if (isAsSeen(d)) {
                bits |= 1 << d;
            }
        }
        return bits;
    }

    private boolean isAsSeen(int d) {
        for (int i = 0; i < seen; i++) {
            if (told.stores[d * GOODS + seenGood[i]] != seenThere[i]) {
                return false;
            }
        }
        return true;
    }

    public int look() {
        int bits = days();
        if (bits == 0) {
            return NONE;
        }
        int at = NONE;
        int least = DAYS + 2;
        for (int g = 0; g < told.goods; g++) {
            int alike = mostAlike(g, bits);
            if (alike < least) {
                least = alike;
                at = g;
            }
        }
        return at;
    }

    private int mostAlike(int g, int bits) {
        int most = 0;
        for (int d = 0; d <= DAYS; d++) {
            if ((bits >> d & 1) == 1) {
                most = Math.max(most, alike(d, g, bits));
            }
        }
        return most;
    }

    private int alike(int d, int g, int bits) {
        int alike = 0;
        for (int e = 0; e <= DAYS; e++) {
            if ((bits >> e & 1) == 1 && told.stores[e * GOODS + g] == told.stores[d * GOODS + g]) {
                alike++;
            }
        }
        return alike;
    }

    public int gave(int d, int to) {
        if (!within(d, 0, DAYS - 1) || !within(to, -1, DAYS - 1)) {
            return BAD;
        }
        if (gaves >= MOST_TOLD) {
            return FULL;
        }
        gaveDay[gaves] = d;
        gaveTo[gaves] = to == -1 ? NONE : to;
        gaves++;
        return gaves;
    }

    public int laws(int what) {
        if (!within(what, 0, 1)) {
            return BAD;
        }
        int many = 0;
        int first = NONE;
        for (int every = 1; every <= MOST_LAW; every++) {
            for (int back = 1; back <= MOST_LAW; back++) {
                if (isAsGave(every, back)) {
                    many++;
                    first = first == NONE ? 10 * every + back : first;
                }
            }
        }
        return what == 0 ? many : first;
    }

    private boolean isAsGave(int every, int back) {
        for (int i = 0; i < gaves; i++) {
            if (leadsBy(every, back, gaveDay[i]) != gaveTo[i]) {
                return false;
            }
        }
        return true;
    }

    public int forget() {
        int both = seen + gaves;
        seen = 0;
        gaves = 0;
        return both;
    }

    // ---- kinds, images

    public int mark(int kind, int g) {
        if (!within(kind, 0, kinds.length - 1) || !told.has(g)) {
            return NO;
        }
        return kinds[kind].marks(told, life.now, g);
    }

    public int keep(int image) {
        if (!within(image, 0, IMAGES - 1)) {
            return BAD;
        }
        images[image].copy(life);
        kept[image] = true;
        return life.now.day;
    }

    public int back(int image) {
        if (!within(image, 0, IMAGES - 1)) {
            return BAD;
        }
        if (!kept[image]) {
            return STATE;
        }
        life.copy(images[image]);
        return life.now.day;
    }

    public int count(int what) {
        switch (what) {
            case 0: return told.goods;
            case 1: return told.every;
            case 2: return told.back;
            case 3: return seen;
            case 4: return gaves;
            case 5: return life.known;
            case 6: return text.length;
            default: return BAD;
        }
    }

    public long trace() {
        long all = 0;
        for (int i = 0; i < kinds.length; i++) {
            all += kinds[i].traced;
        }
        return all;
    }

    private static boolean within(int n, int least, int most) {
        return n >= least && n <= most;
    }

    private static int sum(int[] row) {
        int all = 0;
        for (int i = 0; i < row.length; i++) {
            all += row[i];
        }
        return all;
    }

    /** The day on which a door gives on day d by a law; NONE. Day 20, the end, is none of the days of the law. */
    private static int leadsBy(int every, int back, int d) {
        if (every < 1 || !within(d, back, DAYS - 1) || d % every != 0) {
            return NONE;
        }
        return d - back;
    }

    /** What a text tells, and the stores that follow from it alone. */
    private static final class House {
        final int[] first = new int[GOODS];
        final int[] use = new int[GOODS];
        final int[] weight = new int[GOODS];
        final int[] worth = new int[GOODS];
        final int[] brought = new int[DAYS * GOODS];
        final int[] missed = new int[DAYS * GOODS];
        final int[] stores = new int[(DAYS + 1) * GOODS];
        int goods = 0;
        int every = EVERY_AT_FIRST;
        int back = BACK_AT_FIRST;

        void empty() {
            goods = 0;
            every = EVERY_AT_FIRST;
            back = BACK_AT_FIRST;
            for (int i = 0; i < DAYS * GOODS; i++) {
                brought[i] = 0;
                missed[i] = 0;
            }
        }

        boolean has(int g) {
            return within(g, 0, goods - 1);
        }

        int leads(int d) {
            return leadsBy(every, back, d);
        }

        /** What is left of a good when a day has gone by; LACK, if there is less than is used. */
        int rest(int there, int d, int g) {
            int left = Math.min(MOST_THERE, there + brought[d * GOODS + g]);
            left -= Math.min(left, missed[d * GOODS + g]);
            return left < use[g] ? LACK : left - use[g];
        }

        void reckonStores() {
            for (int g = 0; g < goods; g++) {
                stores[g] = first[g];
                for (int d = 0; d < DAYS; d++) {
                    stores[(d + 1) * GOODS + g] = Math.max(0, rest(stores[d * GOODS + g], d, g));
                }
            }
        }
    }

    /** What the days, takings, purchases and held doors change. */
    private static final class State {
        final int[] there = new int[GOODS];
        final int[] lacked = new int[GOODS];
        final int[] taken = new int[DAYS * GOODS];
        int day;
        boolean held;

        void begin(House told) {
            day = 0;
            held = false;
            for (int g = 0; g < GOODS; g++) {
                there[g] = told.has(g) ? told.first[g] : 0;
                lacked[g] = 0;
            }
            for (int i = 0; i < DAYS * GOODS; i++) {
                taken[i] = 0;
            }
        }

        void copy(State from) {
            day = from.day;
            held = from.held;
            System.arraycopy(from.there, 0, there, 0, GOODS);
            System.arraycopy(from.lacked, 0, lacked, 0, GOODS);
            System.arraycopy(from.taken, 0, taken, 0, DAYS * GOODS);
        }

        int leads(House told) {
            return held ? NONE : told.leads(day);
        }

        int open(House told, int g) {
            return openOn(told, day, g);
        }

        /** How much of a good can be taken through the door on a day, if nothing else is done till then. */
        int openOn(House told, int d, int g) {
            int from = held ? NONE : told.leads(d);
            return from == NONE ? 0 : told.missed[from * GOODS + g] - taken[from * GOODS + g];
        }

        int add(int g, int n) {
            there[g] = Math.min(MOST_THERE, there[g] + n);
            return there[g];
        }

        /** A day goes by: for how many goods one is hungry in it. */
        int pass(House told) {
            int lacking = 0;
            for (int g = 0; g < told.goods && day < DAYS; g++) {
                int rest = told.rest(there[g], day, g);
                if (rest == LACK) {
                    lacking++;
                    lacked[g]++;
                }
                there[g] = Math.max(0, rest);
            }
            day++;
            return lacking;
        }
    }

    /** A state and the states ahead of what may be undone, the latest last; an image is a copy of all of it. */
    private static final class Life {
        static final int MOST_KNOWN = 10;
        final State now = new State();
        final State[] past = new State[MOST_KNOWN];
        int known;

        Life() {
            for (int i = 0; i < MOST_KNOWN; i++) {
                past[i] = new State();
            }
        }

        void begin(House told) {
            now.begin(told);
            known = 0;
        }

        void remember() {
            if (known >= MOST_KNOWN) {
                loseOldest();
            }
            past[known].copy(now);
            known++;
        }

        private void loseOldest() {
            State oldest = past[0];
            for (int i = 1; i < MOST_KNOWN; i++) {
                past[i - 1] = past[i];
            }
            past[MOST_KNOWN - 1] = oldest;
            known = MOST_KNOWN - 1;
        }

        void recall() {
            if (known > 0) {
                known--;
                now.copy(past[known]);
            }
        }

        void copy(Life from) {
            now.copy(from.now);
            known = from.known;
            for (int i = 0; i < known; i++) {
                past[i].copy(from.past[i]);
            }
        }
    }

    /** The text, and how it is read into a house. */
    private static final class Text {
        static final int MOST = 150;
        private static final int END = 0, LETTERS = 1, NUMBER = 2, STOP = 3, WRONG = 4;
        private static final int MOST_NUMBER = 99;
        private static final int NUMBERS = 4;
        final int[] bytes = new int[MOST];
        int length;
        private final int[] numbers = new int[NUMBERS];
        private int at;
        private int place;
        private int token;
        private int value;
        private boolean doorTold;

        /** How many items are told; FAULT less the fault's place, and the house is of no use then. */
        int tell(House into) {
            into.empty();
            at = 0;
            doorTold = false;
            // Each item takes more than a byte, so there are fewer than bytes.
            for (int items = 0; items <= MOST; items++) {
                next();
                if (token == END) {
                    return items;
                }
                if (!readItem(into)) {
                    return FAULT - place;
                }
            }
            return FAULT - place;
        }

        private boolean readItem(House into) {
            int letter = value;
            if (token != LETTERS || !canBegin(into, letter)) {
                return false;
            }
            int wanted = numbersOf(letter);
            for (int i = 0; i < wanted && i < NUMBERS; i++) {
                next();
                if (token != NUMBER || !within(value, leastOf(letter, i), mostOf(into, letter, i))) {
                    return false;
                }
                numbers[i] = value;
            }
            next();
            if (token != STOP) {
                return false;
            }
            put(into, letter);
            return true;
        }

        private boolean canBegin(House into, int letter) {
            switch (letter) {
                case 'g': return into.goods < GOODS;
                case 'b': return true;
                case 'm': return true;
                case 'd': return !doorTold;
                default: return false;
            }
        }

        private static int numbersOf(int letter) {
            return letter == 'g' ? 4 : letter == 'd' ? 2 : 3;
        }

        private static int leastOf(int letter, int i) {
            return letter == 'd' || letter == 'g' && i == 2 ? 1 : 0;
        }

        private static int mostOf(House into, int letter, int i) {
            switch (letter) {
                case 'g': return i == 0 ? 60 : 9;
                case 'd': return MOST_LAW;
                default: return i == 0 ? DAYS - 1 : i == 1 ? into.goods - 1 : 30;
            }
        }

        private void put(House into, int letter) {
            switch (letter) {
                case 'g': putGood(into); break;
                case 'b': into.brought[numbers[0] * GOODS + numbers[1]] = numbers[2]; break;
                case 'm': into.missed[numbers[0] * GOODS + numbers[1]] = numbers[2]; break;
                default: putDoor(into); break;
            }
        }

        private void putGood(House into) {
            int g = into.goods;
            if (g < GOODS) {
                into.first[g] = numbers[0];
                into.use[g] = numbers[1];
                into.weight[g] = numbers[2];
                into.worth[g] = numbers[3];
                into.goods++;
            }
        }

        private void putDoor(House into) {
            doorTold = true;
            into.every = numbers[0];
            into.back = numbers[1];
        }

        private void next() {
            while (at < length && bytes[at] == ' ') {
                at++;
            }
            place = at;
            value = 0;
            if (at >= length) {
                token = END;
            } else if (isLetter(bytes[at])) {
                nextLetters();
            } else if (isDigit(bytes[at])) {
                nextNumber();
            } else {
                token = bytes[at] == ';' ? STOP : WRONG;
                at++;
            }
        }

        /** The value of a letter alone is that letter; no item begins with more. */
        private void nextLetters() {
            token = LETTERS;
            while (at < length && isLetter(bytes[at])) {
                at++;
            }
            value = at == place + 1 ? bytes[place] : 0;
        }

        private void nextNumber() {
            while (at < length && isDigit(bytes[at])) {
                value = Math.min(MOST_NUMBER + 1, value * 10 + bytes[at] - '0');
                at++;
            }
            boolean zeroAhead = bytes[place] == '0' && at > place + 1;
            token = zeroAhead || value > MOST_NUMBER ? WRONG : NUMBER;
        }

        private static boolean isLetter(int c) {
            return within(c, 'a', 'z');
        }

        private static boolean isDigit(int c) {
            return within(c, '0', '9');
        }
    }

    /**
     * The fewest takings by which nobody is hungry. Goods hinder each other only by the one choice a day,
     * so each has a tree of its own: node 1 is now, 2i follows node i if the good is not taken on that
     * day, 2i + 1 if it is.
     */
    private static final class Plan {
        private static final int NODES = 2 << MOST_FED;
        private static final int TOO_MANY = MOST_FED + 1;
        final int[] choice = new int[MOST_FED];
        int length;
        private final int[] there = new int[NODES];
        private final int[] wanted = new int[GOODS * NODES];
        private final int[] node = new int[GOODS];
        private int goods;

        /** How many takings; NONE, if there is no such row of choices. */
        int reckon(House told, State now, int n) {
            goods = told.goods;
            length = Math.max(0, Math.min(Math.min(n, MOST_FED), DAYS - now.day));
            for (int g = 0; g < goods; g++) {
                node[g] = 1;
                growTree(told, now, g);
                reckonWanted(g);
            }
            for (int takings = 0; takings <= length; takings++) {
                if (choose(this, 0, takings)) {
                    return takings;
                }
            }
            return NONE;
        }

        private void growTree(House told, State now, int g) {
            there[1] = now.there[g];
            for (int level = 0; level < length; level++) {
                int d = now.day + level;
                int open = now.openOn(told, d, g);
                for (int i = 1 << level; i < 2 << level; i++) {
                    boolean lacks = there[i] == LACK;
                    there[2 * i] = lacks ? LACK : told.rest(there[i], d, g);
                    // To take nothing is never among the fewest: such a node is left out as if it lacked.
                    there[2 * i + 1] = lacks || open <= 0 ? LACK
                        : told.rest(Math.min(MOST_THERE, there[i] + open), d, g);
                }
            }
        }

        /** How many takings of a good are wanted from each node on, if no other good were in the way. */
        private void reckonWanted(int g) {
            for (int i = (2 << length) - 1; i >= 1; i--) {
                int at = g * NODES + i;
                if (i >= 1 << length) {
                    wanted[at] = there[i] == LACK ? TOO_MANY : 0;
                } else {
                    int ifTaken = wanted[g * NODES + 2 * i + 1] + 1;
                    wanted[at] = Math.min(TOO_MANY, Math.min(wanted[g * NODES + 2 * i], ifTaken));
                }
            }
        }

        private int allWanted() {
            int all = 0;
            for (int g = 0; g < goods; g++) {
                all += wanted[g * NODES + node[g]];
            }
            return all;
        }

        private void descend(int chosen) {
            for (int g = 0; g < goods; g++) {
                node[g] = 2 * node[g] + (g == chosen ? 1 : 0);
            }
        }

        private void ascend() {
            for (int g = 0; g < goods; g++) {
                node[g] = node[g] / 2;
            }
        }

        private static boolean choose(Plan plan, int level, int takings) {
            if (plan.allWanted() > takings) {
                return false;
            }
            if (level >= plan.length) {
                return true;
            }
            for (int g = -1; g < plan.goods; g++) {
                plan.descend(g);
                boolean stands = choose(plan, level + 1, g < 0 ? takings : takings - 1);
                plan.ascend();
                if (stands) {
                    plan.choice[level] = g < 0 ? NONE : g;
                    return true;
                }
            }
            return false;
        }
    }

    private static class Good {
        long traced;

        int marks(House told, State now, int g) {
            traced += 1;
            return now.there[g];
        }
    }

    private static class Sugar extends Good {
        int marks(House told, State now, int g) {
            traced += 10;
            return super.marks(told, now, g) + told.worth[g];
        }
    }

    private static class Ham extends Good {
        int marks(House told, State now, int g) {
            traced += 100;
            return super.marks(told, now, g) - now.lacked[g];
        }
    }

    private static final class Cone extends Sugar {
        int marks(House told, State now, int g) {
            traced += 1000;
            return super.marks(told, now, g) * 2;
        }
    }

    private static final class Jelly extends Ham {
        int marks(House told, State now, int g) {
            traced += 10000;
            return super.marks(told, now, g) + g;
        }
    }

    private static final class Candle extends Good {
        int marks(House told, State now, int g) {
            traced += 100000;
            return super.marks(told, now, g) + now.day;
        }
    }
}
