/** The bounds of kinds, images, counts and the trace (promises 25 to 29), sentence by sentence. */
public final class ImageBounds extends Bounds {
    private static final String FOUR = "g5 1 1 1;g6 1 1 2;g7 1 1 3;g8 1 1 4;";
    private static final long[] TRACES = {1, 11, 101, 1011, 10101, 100001};

    public static void main(String[] args) {
        run(ImageBounds.class);
    }

    // ---- promise 25

    private static void marks(String what, Maker maker, Asks asks, int most, long atFirst, long atMost) {
        bounds(what, maker, asks, new int[] {0, most}, new long[] {atFirst, atMost}, NO);
    }

    @Says(promise = 25, words = "0 GOOD; 1 SUGAR, 2 HAM, 5 CANDLE (each under GOOD); 3 CONE (under SUGAR); 4 JELLY "
        + "(under HAM).")
    static void kinds() {
        marks("mark(.., 1)", Bounds::lived, (x, kind) -> x.mark(kind, 1), 5, 2, 6);
        // Of good 1 there are 2, its worth is 7, it was hungry 3 times, and it is day 4.
        long[] due = {2, 9, -1, 18, 0, 6};
        for (int kind = 0; kind <= 5; kind++) due("mark(" + kind + ", 1)", lived().mark(kind, 1), due[kind]);
    }

    @Says(promise = 25, words = "MARK. NO: BAD.")
    static void markOfNoGood() {
        for (int kind = 0; kind <= 5; kind++) {
            int k = kind;
            long[] first = {5, 6, 5, 12, 5, 5}, last = {8, 12, 8, 24, 11, 8};
            marks("mark(" + k + ", ..)", () -> with(FOUR), (x, g) -> x.mark(k, g), 3, first[k], last[k]);
            refused("mark(" + k + ", 3)", Bounds::lived, x -> x.mark(k, 3), NO);
            refused("mark(" + k + ", 0) of no goods", PantryDoors::new, x -> x.mark(k, 0), NO);
        }
        refused("mark(6, 4)", Bounds::lived, x -> x.mark(6, 4), NO);
    }

    @Says(promise = 25, words = "`NO = -1000000`: What none is, where a number may be below 0.")
    static void markBelowNone() {
        PantryDoors x = on(20, "g0 1 1 0;g0 1 1 0;");
        due("HAM, hungry on all days", x.mark(2, 0), -20);
        due("JELLY", x.mark(4, 1), -19);
        due("CANDLE at the end", x.mark(5, 0), 20);
        PantryDoors one = on(1, "g0 1 1 0;");
        due("HAM, as BAD is", one.mark(2, 0), -1);
        due("NO", PantryDoors.NO, -1000000);
    }

    @Says(promise = 25, words = "CONE up times 2")
    static void markMost() {
        PantryDoors x = on(0, "g60 0 1 9;");
        for (int i = 0; i < 105; i++) x.buys(0, 9);
        due("GOOD", x.mark(0, 0), 999);
        due("SUGAR", x.mark(1, 0), 1008);
        due("CONE", x.mark(3, 0), 2016);
    }

    // ---- promise 26, 27

    @Says(promise = 26, words = "An IMAGE is kept: the DAY. BAD.")
    static void keepWhich() {
        bounds("keep(..)", Bounds::lived, PantryDoors::keep, 0, 4, 1, 4);
        bounds("keep(..) of a new object", PantryDoors::new, PantryDoors::keep, 0, 0, 1, 0);
        due("at the end", atTheEnd().keep(1), 20);
        PantryDoors x = lived();
        x.keep(0);
        x.goes();
        x.keep(0);
        x.goes();
        due("the later is kept", x.back(0), 5);
        due("the other stays", x.back(1), 4);
    }

    @Says(promise = 27, words = "All of that becomes as an IMAGE has it: the DAY. BAD")
    static void backWhich() {
        bounds("back(..)", Bounds::lived, PantryDoors::back, 0, 4, 1, 4);
        PantryDoors end = atTheEnd();
        end.keep(0);
        end.undo();
        due("to the end", end.back(0), 20);
        due("no day behind it", end.goes(), STATE);
        Maker kept = () -> {
            PantryDoors x = lived();
            x.keep(0);
            return x;
        };
        unchanged("whatever was done, and back", kept,
            x -> x.takes(1, 1) + x.buys(0, 9) + x.goes() + x.holds(1) + x.back(0));
        unchanged("whatever was undone, and back", kept, x -> x.undo() + x.undo() + x.undo() + x.back(0));
    }

    @Says(promise = 27, words = "STATE: none was kept.")
    static void backToNone() {
        refused("back(0)", PantryDoors::new, x -> x.back(0), STATE);
        refused("back(1)", PantryDoors::new, x -> x.back(1), STATE);
        for (int kept = 0; kept < 2; kept++) {
            int k = kept;
            Maker one = () -> {
                PantryDoors x = on(2, "g5 1 1 1;");
                x.keep(k);
                return pass(x, 1);
            };
            refused("back(" + (1 - k) + ")", one, x -> x.back(1 - k), STATE);
            due("back(" + k + ")", one.make().back(k), 2);
        }
        Maker anew = () -> {
            PantryDoors x = lived();
            x.house();
            return x;
        };
        refused("read anew, back(0)", anew, x -> x.back(0), STATE);
        refused("read anew, back(1)", anew, x -> x.back(1), STATE);
        PantryDoors faulty = types(lived(), "~");
        faulty.house();
        due("not read for its fault, back(0)", faulty.back(0), 4);
    }

    @Says(promise = 27, words = "BAD; STATE: none was kept.")
    static void backBadAheadOfState() {
        for (int image : new int[] {-1, 2, LOW, HIGH}) {
            refused("back(" + image + ")", PantryDoors::new, x -> x.back(image), BAD);
        }
    }

    @Says(promise = 27, words = "IMAGES 0, 1 keep NOW (the DAY, what there is, was TAKEN, HUNGRY, whether it is "
        + "HELD, what may be UNDONE)")
    static void imageHasAllOfNow() {
        for (int image = 0; image < 2; image++) {
            PantryDoors x = lived();
            x.holds(1);
            x.keep(image);
            x.holds(0);
            x.takes(1, 1);
            x.buys(0, 9);
            pass(x, 16);
            due("back", x.back(image), 4);
            int[] now = {4, NONE, 1, 6, 2};
            for (int w = 0; w < now.length; w++) due("now(" + w + ")", x.now(w), now[w]);
            int[] there = {0, 2, 7}, hungry = {3, 3, 0};
            for (int g = 0; g < 3; g++) {
                due("there is", x.good(g, 4), there[g]);
                due("hungry", x.good(g, 5), hungry[g]);
            }
            due("taken", x.day(1, 1, 2), 2);
            due("may be undone", x.count(5), 9);
            for (int i = 8; i >= 0; i--) due("undone", x.undo(), i);
            due("the day", x.now(0), 0);
            due("there is", x.good(0, 4), 10);
        }
    }

    @Says(promise = 27, words = "what may be UNDONE")
    static void imageOfTenKnown() {
        PantryDoors x = with("g0 0 1 1;");
        x.keep(0);
        for (int i = 0; i < 12; i++) x.buys(0, 1);
        x.keep(1);
        for (int i = 0; i < 12; i++) x.buys(0, 2);
        due("back to ten known", x.back(1), 0);
        due("known", x.count(5), 10);
        x.buys(0, 5);
        due("ten are known", x.count(5), 10);
        for (int i = 9; i >= 0; i--) due("undone", x.undo(), i);
        due("older ones are lost", x.good(0, 4), 3);
        x.back(1);
        for (int i = 9; i >= 0; i--) due("the image has its own", x.undo(), i);
        due("older ones are lost", x.good(0, 4), 2);
        x.back(0);
        due("none known", x.undo(), STATE);
        due("there is", x.good(0, 4), 0);
    }

    @Says(promise = 27, words = "nothing else.")
    static void imageHasNothingElse() {
        PantryDoors x = lived();
        x.saw(1, 1);
        x.saw(2, 2);
        x.gave(6, 3);
        x.mark(0, 0);
        types(x, " ");
        long trace = x.trace();
        x.back(0);
        due("SEEN", x.count(3), 3);
        due("GAVE", x.count(4), 2);
        due("bytes", x.count(6), 15);
        due("the trace", x.trace(), trace);
        x.forget();
        x.clear();
        x.back(1);
        due("SEEN", x.count(3), 0);
        due("GAVE", x.count(4), 0);
        due("bytes", x.count(6), 0);
        x.keep(0);
        x.undo();
        due("a kept image is not undone", x.back(0), 4);
    }

    // ---- promise 28

    @Says(promise = 28, words = "0 GOODS, 1 EVERY, 2 BACK, 3 SEEN, 4 GAVE, 5 how many may be UNDONE, 6 bytes of THE "
        + "TEXT. BAD.")
    static void countWhat() {
        bounds("count(..)", Bounds::lived, PantryDoors::count, 0, 3, 6, 14);
        bounds("count(..) of a new object", PantryDoors::new, PantryDoors::count, 0, 0, 6, 0);
        int[] due = {3, 2, 3, 1, 1, 8, 14};
        for (int w = 0; w <= 6; w++) due("count(" + w + ")", lived().count(w), due[w]);
        unchanged("count", Bounds::lived, x -> x.count(6));
        int[] most = {4, 9, 9, 4, 4, 10, 150};
        PantryDoors x = with("d9 9;" + FOUR);
        for (int i = 0; i < 5; i++) {
            x.saw(0, 0);
            x.gave(0, -1);
        }
        pass(x, 11);
        types(x, " ".repeat(151));
        for (int w = 0; w <= 6; w++) due("at most, count(" + w + ")", x.count(w), most[w]);
    }

    // ---- promise 29

    @Says(promise = 29, words = "(numbers in brackets come to THE TRACE as often as mark() asks that body; \"up\" is "
        + "what the KIND above does)")
    static void traces() {
        due("at first", new PantryDoors().trace(), 0);
        long all = 0;
        PantryDoors x = with("g5 1 1 1;");
        for (int i = 0; i < 120; i++) {
            x.mark(i % 6, 0);
            all += TRACES[i % 6];
            due("trace", x.trace(), all);
        }
        unchanged("trace", Bounds::lived, PantryDoors::trace);
        due("of candles alone", candles(400), 400L * 100001);
    }

    private static long candles(int many) {
        PantryDoors x = with("g5 1 1 1;");
        for (int i = 0; i < many; i++) x.mark(5, 0);
        return x.trace();
    }

    @Says(promise = 29, words = "Refused, and nothing changes")
    static void refusedIsNotTraced() {
        PantryDoors x = lived();
        long trace = x.trace();
        due("traced", trace, 100001);
        int[][] bad = {{-1, 0}, {6, 0}, {0, -1}, {0, 3}, {3, 3}, {LOW, LOW}, {HIGH, HIGH}};
        for (int[] b : bad) {
            x.mark(b[0], b[1]);
            due("after mark(" + b[0] + ", " + b[1] + ")", x.trace(), trace);
        }
    }

    @Says(promise = 25, words = "MARK of a GOOD as if of a KIND")
    static void markChangesTheTraceAlone() {
        for (int kind = 0; kind <= 5; kind++) {
            PantryDoors x = lived();
            long before = x.trace();
            x.mark(kind, 2);
            due("the trace of kind " + kind, x.trace() - before, TRACES[kind]);
            due("nothing to be undone", x.count(5), 8);
            due("there is", x.good(2, 4), 7);
            x.undo();
            due("the trace is not undone", x.trace() - before, TRACES[kind]);
        }
    }
}
