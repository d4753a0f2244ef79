import java.lang.reflect.Method;
import java.util.ArrayList;
import java.util.Arrays;
import java.util.List;
import java.util.Random;
import java.util.regex.Matcher;
import java.util.regex.Pattern;

/** Long runs of calls, each answer held against a second telling of the document that tries out everything. */
public final class OracleRuns {
    private static final int BAD = -1, STATE = -2, FULL = -3, NONE = -9;
    private static int wrong = 0;

    private static final class Told {
        int every = 2, back = 3, items = 0;
        final List<int[]> goods = new ArrayList<>();
        final int[][] brought = new int[20][4], missed = new int[20][4];
    }

    private static final class Now {
        int day;
        boolean held;
        int[] there = new int[4], hungry = new int[4];
        int[][] taken = new int[20][4];
        List<Now> past = new ArrayList<>();

        Now copy() {
            Now c = new Now();
            c.day = day;
            c.held = held;
            c.there = there.clone();
            c.hungry = hungry.clone();
            for (int d = 0; d < 20; d++) c.taken[d] = taken[d].clone();
            c.past = new ArrayList<>(past);
            return c;
        }
    }

    private static final class Oracle {
        private static final Pattern TOKEN = Pattern.compile("([a-z]+)|([0-9]+)|(;)|([^ ])", Pattern.DOTALL);
        StringBuilder text = new StringBuilder();
        Told told = new Told();
        Now now = new Now();
        Now[] images = new Now[2];
        List<int[]> seen = new ArrayList<>(), gave = new ArrayList<>();
        long trace;

        int type(int c) {
            if (c < 0 || c > 255) return BAD;
            if (text.length() == 150) return FULL;
            text.append((char) c);
            return text.length();
        }

        int clear() {
            int n = text.length();
            text.setLength(0);
            return n;
        }

        int house() {
            List<int[]> places = new ArrayList<>();
            List<String> tokens = new ArrayList<>();
            Matcher m = TOKEN.matcher(text);
            while (m.find()) {
                tokens.add(m.group());
                places.add(new int[] {m.start()});
            }
            Told t = new Told();
            int at = 0;
            boolean door = false;
            while (at < tokens.size()) {
                String letters = tokens.get(at);
                int[] least, most;
                switch (letters) {
                    case "g":
                        if (t.goods.size() == 4) return -10 - places.get(at)[0];
                        least = new int[] {0, 0, 1, 0};
                        most = new int[] {60, 9, 9, 9};
                        break;
                    case "b": case "m":
                        least = new int[] {0, 0, 0};
                        most = new int[] {19, t.goods.size() - 1, 30};
                        break;
                    case "d":
                        if (door) return -10 - places.get(at)[0];
                        door = true;
                        least = new int[] {1, 1};
                        most = new int[] {9, 9};
                        break;
                    default:
                        return -10 - places.get(at)[0];
                }
                int[] n = new int[least.length];
                for (int i = 0; i <= n.length; i++) {
                    int k = at + 1 + i;
                    if (k >= tokens.size()) return -10 - text.length();
                    String s = tokens.get(k);
                    if (i == n.length) {
                        if (!s.equals(";")) return -10 - places.get(k)[0];
                    } else {
                        if (!s.matches("0|[1-9][0-9]?")) return -10 - places.get(k)[0];
                        n[i] = Integer.parseInt(s);
                        if (n[i] < least[i] || n[i] > most[i]) return -10 - places.get(k)[0];
                    }
                }
                if (letters.equals("g")) t.goods.add(n);
                if (letters.equals("b")) t.brought[n[0]][n[1]] = n[2];
                if (letters.equals("m")) t.missed[n[0]][n[1]] = n[2];
                if (letters.equals("d")) {
                    t.every = n[0];
                    t.back = n[1];
                }
                t.items++;
                at += n.length + 2;
            }
            told = t;
            now = fresh();
            images = new Now[2];
            seen.clear();
            gave.clear();
            text.setLength(0);
            return t.items;
        }

        Now fresh() {
            Now n = new Now();
            for (int g = 0; g < told.goods.size(); g++) n.there[g] = told.goods.get(g)[0];
            return n;
        }

        boolean no(int g) {
            return g < 0 || g >= told.goods.size();
        }

        static int by(int every, int back, int d) {
            return d < 20 && d % every == 0 && d - back >= 0 ? d - back : NONE;
        }

        int gate(Now n) {
            return n.held ? NONE : by(told.every, told.back, n.day);
        }

        int can(Now n, int g) {
            int to = gate(n);
            return to == NONE ? 0 : told.missed[to][g] - n.taken[to][g];
        }

        int pass(Now n) {
            int lacks = 0;
            for (int g = 0; g < told.goods.size(); g++) {
                int x = n.there[g] + told.brought[n.day][g];
                if (x > 999) x = 999;
                x -= told.missed[n.day][g];
                if (x < 0) x = 0;
                x -= told.goods.get(g)[1];
                if (x < 0) {
                    x = 0;
                    lacks++;
                    n.hungry[g]++;
                }
                n.there[g] = x;
            }
            n.day++;
            return lacks;
        }

        void take(Now n, int g, int much) {
            n.taken[gate(n)][g] += much;
            n.there[g] = Math.min(999, n.there[g] + much);
        }

        int good(int g, int what) {
            if (no(g) || what < 0 || what > 6) return BAD;
            if (what < 4) return told.goods.get(g)[what];
            return what == 4 ? now.there[g] : what == 5 ? now.hungry[g] : can(now, g);
        }

        int day(int d, int g, int what) {
            if (d < 0 || d > 19 || no(g) || what < 0 || what > 2) return BAD;
            return (what == 0 ? told.brought : what == 1 ? told.missed : now.taken)[d][g];
        }

        void known() {
            Now before = now.copy();
            before.past = null;
            now.past.add(before);
            if (now.past.size() > 10) now.past.remove(0);
        }

        int goes() {
            if (now.day == 20) return STATE;
            known();
            return pass(now);
        }

        int takes(int g, int n) {
            if (no(g) || n < 1 || n > 30) return BAD;
            if (gate(now) == NONE || n > can(now, g)) return STATE;
            known();
            take(now, g, n);
            return now.there[g];
        }

        int buys(int g, int n) {
            if (no(g) || n < 1 || n > 9) return BAD;
            if (now.there[g] == 999) return STATE;
            known();
            now.there[g] = Math.min(999, now.there[g] + n);
            return now.there[g];
        }

        int holds(int is) {
            if (is != 0 && is != 1) return BAD;
            if (now.held == (is == 1)) return STATE;
            known();
            now.held = is == 1;
            return gate(now);
        }

        int undo() {
            if (now.past.isEmpty()) return STATE;
            List<Now> past = now.past;
            Now n = past.remove(past.size() - 1);
            now = new Now();
            now.day = n.day;
            now.held = n.held;
            now.there = n.there.clone();
            now.hungry = n.hungry.clone();
            for (int d = 0; d < 20; d++) now.taken[d] = n.taken[d].clone();
            now.past = past;
            return past.size();
        }

        Now bare() {
            Now n = now.copy();
            n.past = new ArrayList<>();
            return n;
        }

        int now(int what) {
            if (what == 0) return now.day;
            if (what == 1) return gate(now);
            if (what == 2) return now.held ? 1 : 0;
            if (what == 3) return Arrays.stream(now.hungry).sum();
            if (what == 4) return Arrays.stream(now.taken).mapToInt(r -> Arrays.stream(r).sum()).sum();
            if (what != 5) return BAD;
            Now n = bare();
            while (n.day < 20) if (pass(n) > 0) return n.day - 1;
            return NONE;
        }

        int gives(int d, int what) {
            if (d < 0 || d > 19 || what < 0 || what > 2) return BAD;
            int to = by(told.every, told.back, d);
            if (what == 0) return to;
            if (what == 1) return to == NONE ? 0 : 1 + gives(to, 1);
            int n = 0;
            for (int e = 0; e < 20; e++) {
                if (e != d && by(told.every, told.back, e) == d) n++;
                if (e != d && to == e) n++;
            }
            return n;
        }

        int hungry(int g, int n) {
            if (no(g) || n < 1 || n > 20) return BAD;
            Now s = bare();
            for (int i = 0; i < n && s.day < 20; i++) pass(s);
            return s.hungry[g] - now.hungry[g];
        }

        // Every row of choices in the document's order; the first with fewer takings than all ahead of it stays.
        int[] bestRow;
        int bestTaken;

        void rows(Now n, int left, int[] row, int at, int taken) {
            if (left == 0) {
                if (taken < bestTaken) {
                    bestTaken = taken;
                    bestRow = Arrays.copyOf(row, at);
                }
                return;
            }
            for (int c = -1; c < told.goods.size(); c++) {
                Now s = n.copy();
                if (c >= 0) {
                    if (can(s, c) == 0) continue;
                    take(s, c, can(s, c));
                }
                row[at] = c;
                if (pass(s) == 0) rows(s, left - 1, row, at + 1, c < 0 ? taken : taken + 1);
            }
        }

        int fed(int n, int k) {
            if (n < 1 || n > 6 || k < -1 || k > 5) return BAD;
            bestRow = null;
            bestTaken = 99;
            rows(bare(), Math.min(n, 20 - now.day), new int[6], 0, 0);
            if (bestRow == null) return NONE;
            if (k == -1) return bestTaken;
            return k >= bestRow.length || bestRow[k] < 0 ? NONE : bestRow[k];
        }

        int bestWorth;
        int[] bestLoad;

        void loads(int g, int left, int worth, int[] load) {
            if (g == told.goods.size()) {
                if (worth > bestWorth) {
                    bestWorth = worth;
                    bestLoad = load.clone();
                }
                return;
            }
            int[] good = told.goods.get(g);
            for (int x = 0; x <= can(now, g) && x * good[2] <= left; x++) {
                load[g] = x;
                loads(g + 1, left - x * good[2], worth + x * good[3], load);
            }
        }

        int carry(int weight, int g) {
            if (weight < 0 || weight > 60 || g != -1 && no(g)) return BAD;
            if (gate(now) == NONE) return NONE;
            bestWorth = -1;
            loads(0, weight, 0, new int[4]);
            return g == -1 ? bestWorth : bestLoad[g];
        }

        int odds(int x, int n, int what) {
            if (x < 0 || x > 10 || n < 0 || n > 9 || what < 0 || what > 1) return BAD;
            java.math.BigInteger low = java.math.BigInteger.TEN.pow(n);
            java.math.BigInteger up = low.subtract(java.math.BigInteger.valueOf(x).pow(n));
            return (what == 0 ? up : low).divide(up.gcd(low)).intValueExact();
        }

        int store(int d, int g) {
            if (d < 0 || d > 20 || no(g)) return BAD;
            Now n = fresh();
            while (n.day < d) pass(n);
            return n.there[g];
        }

        int saw(int g, int n) {
            if (no(g) || n < 0 || n > 999) return BAD;
            if (seen.size() == 4) return FULL;
            seen.add(new int[] {g, n});
            return seen.size();
        }

        int days() {
            int bits = 0;
            for (int d = 0; d <= 20; d++) {
                boolean so = true;
                for (int[] s : seen) so &= store(d, s[0]) == s[1];
                if (so) bits += 1 << d;
            }
            return bits;
        }

        int look() {
            int bits = days(), at = NONE, least = 99;
            for (int g = 0; g < told.goods.size() && bits != 0; g++) {
                int[] groups = new int[1000];
                for (int d = 0; d <= 20; d++) if ((bits & 1 << d) != 0) groups[store(d, g)]++;
                int most = Arrays.stream(groups).max().getAsInt();
                if (most < least) {
                    least = most;
                    at = g;
                }
            }
            return at;
        }

        int gave(int d, int to) {
            if (d < 0 || d > 19 || to < -1 || to > 19) return BAD;
            if (gave.size() == 4) return FULL;
            gave.add(new int[] {d, to});
            return gave.size();
        }

        int laws(int what) {
            if (what < 0 || what > 1) return BAD;
            List<Integer> fit = new ArrayList<>();
            for (int e = 1; e <= 9; e++) {
                for (int b = 1; b <= 9; b++) {
                    boolean so = true;
                    for (int[] s : gave) so &= by(e, b, s[0]) == (s[1] == -1 ? NONE : s[1]);
                    if (so) fit.add(10 * e + b);
                }
            }
            return what == 0 ? fit.size() : fit.isEmpty() ? NONE : fit.get(0);
        }

        int forget() {
            int n = seen.size() + gave.size();
            seen.clear();
            gave.clear();
            return n;
        }

        int mark(int kind, int g) {
            if (kind < 0 || kind > 5 || no(g)) return -1000000;
            int there = now.there[g], worth = told.goods.get(g)[3], hungry = now.hungry[g];
            trace += new long[] {1, 11, 101, 1011, 10101, 100001}[kind];
            return new int[] {there, there + worth, there - hungry, 2 * (there + worth), there - hungry + g,
                there + now.day}[kind];
        }

        int keep(int image) {
            if (image < 0 || image > 1) return BAD;
            images[image] = now.copy();
            return now.day;
        }

        int back(int image) {
            if (image < 0 || image > 1) return BAD;
            if (images[image] == null) return STATE;
            now = images[image].copy();
            return now.day;
        }

        int count(int what) {
            int[] all = {told.goods.size(), told.every, told.back, seen.size(), gave.size(), now.past.size(),
                text.length()};
            return what < 0 || what >= all.length ? BAD : all[what];
        }

        long trace() {
            return trace;
        }
    }

    private static final String[] CALLS = {"type", "clear", "house", "good", "day", "goes", "takes", "buys", "holds",
        "undo", "now", "gives", "hungry", "fed", "carry", "odds", "store", "saw", "days", "look", "gave", "laws",
        "forget", "mark", "keep", "back", "count", "trace"};

    private static final Method[] GOT = methods(PantryDoors.class), DUE = methods(Oracle.class);

    private static Method[] methods(Class<?> of) {
        Method[] found = new Method[CALLS.length];
        for (Method m : of.getDeclaredMethods()) {
            int call = Arrays.asList(CALLS).indexOf(m.getName());
            if (call >= 0) found[call] = m;
        }
        return found;
    }

    private static long ask(Object x, Method m, Object... numbers) {
        try {
            return ((Number) m.invoke(x, Arrays.copyOf(numbers, m.getParameterCount()))).longValue();
        } catch (ReflectiveOperationException e) {
            throw new IllegalStateException(m.getName() + Arrays.toString(numbers), e);
        }
    }

    private static final class Run {
        final Random dice;
        final PantryDoors got = new PantryDoors();
        final Oracle want = new Oracle();
        final StringBuilder story = new StringBuilder();
        int calls = 0;
        boolean lost = false;

        Run(long seed) {
            dice = new Random(seed);
        }

        void call(int call, int a, int b, int c) {
            if (lost || calls >= 512) return;
            calls++;
            long w = ask(want, DUE[call], a, b, c), g = ask(got, GOT[call], a, b, c);
            story.append(CALLS[call]).append('(').append(a).append(", ").append(b).append(", ").append(c)
                .append(") = ").append(g).append('\n');
            if (g != w) {
                lost = true;
                wrong++;
                if (wrong <= 3) System.out.println(story + "-- due is " + w);
            }
        }

        void tell(String text) {
            for (int i = 0; i < text.length(); i++) call(0, text.charAt(i), 0, 0);
            call(2, 0, 0, 0);
        }

        int upTo(int n) {
            return dice.nextInt(n + 1);
        }

        /** Mostly a number that is as told; sometimes one beside it, or far away. */
        int near(int least, int most) {
            int r = upTo(60);
            if (r == 0) return least - 1;
            if (r == 1) return most + 1;
            if (r == 2) return dice.nextInt();
            if (r == 3) return dice.nextBoolean() ? Integer.MIN_VALUE : Integer.MAX_VALUE;
            return least + upTo(most - least);
        }

        String randomHouse(int length) {
            StringBuilder s = new StringBuilder();
            int style = upTo(3);
            int goods = style == 3 ? 1 + upTo(3) : upTo(4);
            boolean often = dice.nextInt(3) > 0;
            if (dice.nextInt(4) > 0) s.append(often ? "d" + (1 + upTo(2)) + " " + (1 + upTo(4)) + ";"
                : "d" + (1 + upTo(8)) + " " + (1 + upTo(8)) + ";");
            for (int g = 0; g < goods; g++) {
                int use = style == 0 ? upTo(9) : upTo(4);
                s.append("g" + upTo(style == 1 ? 60 : 14) + " " + use + " " + (1 + upTo(8)) + " " + upTo(9) + ";");
            }
            while (goods > 0 && s.length() < length - 8) {
                int day = upTo(often ? 9 : 19);
                String more = (dice.nextInt(3) == 0 ? "b" : "m") + day + " " + upTo(goods - 1) + " "
                    + upTo(style == 2 ? 30 : 12) + ";" + (upTo(9) == 0 ? " " : "");
                s.append(more);
                if (upTo(25) == 0) break;
            }
            if (upTo(5) == 0 && s.length() > 0) {
                String signs = "gbmd;09 19 AxZ~`{/:" + (char) 0 + (char) 255;
                s.setCharAt(upTo(s.length() - 1), signs.charAt(upTo(signs.length() - 1)));
            }
            return s.toString();
        }

        void any() {
            int goods = want.told.goods.size();
            int last = Math.max(0, goods - 1);
            switch (upTo(29)) {
                case 0: case 1: case 2: case 3: call(5, 0, 0, 0); break;
                case 4: case 5: {
                    int g = near(0, last);
                    int can = want.no(g) ? 0 : want.can(want.now, g);
                    call(6, g, upTo(2) > 0 && can > 0 ? 1 + upTo(can - 1) : near(1, 30), 0);
                    break;
                }
                case 6: case 7: call(7, near(0, last), near(1, 9), 0); break;
                case 8: call(8, near(0, 1), 0, 0); break;
                case 9: case 10: call(9, 0, 0, 0); break;
                case 11: for (int w = 0; w <= 5; w++) call(10, w, 0, 0); call(10, near(0, 5), 0, 0); break;
                case 12: call(11, near(0, 19), near(0, 2), 0); break;
                case 13: call(12, near(0, last), near(1, 20), 0); break;
                case 14: case 15: {
                    int n = near(1, 6);
                    call(13, n, -1, 0);
                    call(13, n, near(-1, 5), 0);
                    call(13, n, near(-1, 5), 0);
                    break;
                }
                case 16: {
                    int weight = near(0, 60);
                    for (int g = -1; g < goods; g++) call(14, weight, g, 0);
                    call(14, near(0, 60), near(-1, last), 0);
                    break;
                }
                case 17: call(15, near(0, 10), near(0, 9), near(0, 1)); break;
                case 18: call(16, near(0, 20), near(0, last), 0); break;
                case 19: {
                    int g = near(0, last);
                    call(17, g, want.no(g) || upTo(4) == 0 ? near(0, 999) : want.store(upTo(20), g), 0);
                    break;
                }
                case 20: call(18, 0, 0, 0); call(19, 0, 0, 0); break;
                case 21: {
                    int d = near(0, 19);
                    int to = d < 0 || d > 19 || upTo(3) == 0 ? near(-1, 19) : Oracle.by(1 + upTo(2), 1 + upTo(3), d);
                    call(20, d, to == NONE ? -1 : to, 0);
                    break;
                }
                case 22: call(21, 0, 0, 0); call(21, near(0, 1), 0, 0); break;
                case 23: if (upTo(3) == 0) call(22, 0, 0, 0); break;
                case 24: call(23, near(0, 5), near(0, last), 0); call(27, 0, 0, 0); break;
                case 25: call(24, near(0, 1), 0, 0); break;
                case 26: call(25, near(0, 1), 0, 0); break;
                case 27: for (int w = 0; w <= 6; w++) call(26, w, 0, 0); call(26, near(0, 6), 0, 0); break;
                case 28: call(3, near(0, last), near(0, 6), 0); call(4, near(0, 19), near(0, last), near(0, 2)); break;
                default:
                    if (upTo(3) == 0) call(0, near(0, 255), 0, 0);
                    if (upTo(20) == 0) call(2, 0, 0, 0);
                    if (upTo(20) == 0) call(1, 0, 0, 0);
                    if (upTo(3) == 0) {
                        if (upTo(3) > 0) call(1, 0, 0, 0);
                        tell(randomHouse(60));
                    }
                    break;
            }
        }
    }

    private static void manyRuns(int runs) {
        for (int seed = 1; seed <= runs; seed++) {
            Run r = new Run(seed);
            if (r.upTo(9) > 0) r.tell(r.randomHouse(150));
            for (int i = 0; i < 512 && r.calls < 512 && !r.lost; i++) r.any();
        }
    }

    /** Houses in which goods want the same days: all that fed can be asked, day by day. */
    private static void manyFed(int runs) {
        for (int seed = 1; seed <= runs; seed++) {
            Run r = new Run(seed * 7919L);
            int goods = 2 + r.upTo(1);
            StringBuilder s = new StringBuilder("d1 " + (1 + r.upTo(1)) + ";");
            for (int g = 0; g < goods; g++) s.append("g" + (4 + r.upTo(14)) + " " + (1 + r.upTo(2)) + " 1 1;");
            while (s.length() < 143) s.append("m" + r.upTo(5) + " " + r.upTo(goods - 1) + " " + r.upTo(5) + ";");
            r.tell(s.toString());
            for (int d = 0; d < 4; d++) {
                for (int n = 1; n <= 6; n++) {
                    for (int k = -1; k <= 5; k++) r.call(13, n, k, 0);
                }
                r.call(5, 0, 0, 0);
            }
        }
    }

    /** Goods till there is no room for more, by buying, taking and what is brought. */
    private static void fullStores() {
        Run r = new Run(0);
        r.tell("d1 1;g60 0 1 1;m0 0 30;m1 0 30;b2 0 30;b1 0 3;");
        for (int i = 0; i < 104; i++) r.call(7, 0, 9, 0);
        r.call(5, 0, 0, 0);
        r.call(7, 0, 9, 0);
        r.call(24, 0, 0, 0);
        for (int t = 1; t <= 30; t += 7) {
            r.call(25, 0, 0, 0);
            r.call(6, 0, t, 0);
            r.call(5, 0, 0, 0);
            for (int i = 0; i < 6; i++) r.call(7, 0, 9, 0);
            r.call(6, 0, 4, 0);
            r.call(4, 1, 0, 2);
            r.call(13, 3, -1, 0);
            r.call(5, 0, 0, 0);
            r.call(3, 0, 4, 0);
        }
    }

    /** Texts of tokens put side by side at random: where the fault is. */
    private static void texts(int runs) {
        String[] parts = {"g", "b", "m", "d", ";", " ", "0", "1", "9", "10", "19", "20", "30", "31", "60", "61", "99",
            "100", "01", "00", "x", "gg", "A", "-", "g1 2 3 4;", "d2 2;", "g0 0 1 0", "b0 0 1;", "m19 0 30;", "  "};
        for (int seed = 1; seed <= runs; seed++) {
            Run r = new Run(-seed);
            for (int t = 0; t < 8; t++) {
                StringBuilder s = new StringBuilder();
                for (int i = r.upTo(12); i > 0; i--) s.append(parts[r.upTo(parts.length - 1)]);
                r.tell(s.toString());
                r.call(26, 6, 0, 0);
                r.call(26, 0, 0, 0);
                r.call(26, 1, 0, 0);
                r.call(1, 0, 0, 0);
            }
        }
    }

    public static void main(String[] args) {
        int runs = args.length > 0 ? Integer.parseInt(args[0]) : 3000;
        manyRuns(runs);
        manyFed(runs);
        fullStores();
        texts(runs);
        System.out.println(wrong == 0 ? "all answers are as due" : wrong + " runs went astray");
        if (wrong != 0) System.exit(1);
    }
}
