/** One method a promise: ordinary inputs, the edges that the document names, wrong inputs. Worked out by hand. */
public final class PromiseTests {
    private static final int BAD = -1, STATE = -2, FULL = -3, NONE = -9, NO = -1000000;
    private static final int LOW = Integer.MIN_VALUE, HIGH = Integer.MAX_VALUE;

    // There is, ahead of days 0 .. 8: (10 5 8) (0 3 7) (0 0 6) (0 0 5) (0 0 0) (5 0 0) (1 0 0) (0 1 0) (0 0 0).
    private static final String HOUSE =
        "d2 3;g10 4 2 3;g5 2 5 7;g8 1 1 1;m0 0 6;m1 1 3;m1 0 2;m3 2 4;b4 0 9;m5 1 7; b6 1 3;";

    private static int promise = 0;
    private static int wrong = 0;

    private static void due(String what, long got, long want) {
        if (got != want) {
            wrong++;
            System.out.println("promise " + promise + ": " + what + " answered " + got + ", due is " + want);
        }
    }

    private static int types(PantryDoors x, String text) {
        int n = x.count(6);
        for (int i = 0; i < text.length(); i++) n = x.type(text.charAt(i));
        return n;
    }

    private static PantryDoors with(String text) {
        PantryDoors x = new PantryDoors();
        types(x, text);
        x.house();
        return x;
    }

    private static void pass(PantryDoors x, int days) {
        for (int i = 0; i < days; i++) x.goes();
    }

    private static void newObject() {
        PantryDoors x = new PantryDoors();
        int[] counts = {0, 2, 3, 0, 0, 0, 0};
        for (int i = 0; i < counts.length; i++) due("count(" + i + ")", x.count(i), counts[i]);
        int[] nows = {0, NONE, 0, 0, 0, NONE};
        for (int i = 0; i < nows.length; i++) due("now(" + i + ")", x.now(i), nows[i]);
        due("good", x.good(0, 0), BAD);
        due("day", x.day(0, 0, 0), BAD);
        due("store", x.store(0, 0), BAD);
        due("undo", x.undo(), STATE);
        due("back(0)", x.back(0), STATE);
        due("back(1)", x.back(1), STATE);
        due("trace", x.trace(), 0);
        due("days", x.days(), (1 << 21) - 1);
        due("look", x.look(), NONE);
        due("laws", x.laws(0), 81);
        due("fed", x.fed(6, -1), 0);
    }

    private static void type() {
        PantryDoors x = new PantryDoors();
        due("type(0)", x.type(0), 1);
        due("type(255)", x.type(255), 2);
        due("type(-1)", x.type(-1), BAD);
        due("type(256)", x.type(256), BAD);
        due("type(LOW)", x.type(LOW), BAD);
        due("type(HIGH)", x.type(HIGH), BAD);
        due("bytes", x.count(6), 2);
        for (int i = 3; i <= 150; i++) due("type", x.type(' '), i);
        due("type beyond 150", x.type(' '), FULL);
        due("a wrong byte beyond 150", x.type(256), BAD);
        due("bytes", x.count(6), 150);
    }

    private static void clear() {
        PantryDoors x = new PantryDoors();
        due("clear of nothing", x.clear(), 0);
        types(x, "g1 1;");
        due("clear", x.clear(), 5);
        due("clear again", x.clear(), 0);
        due("bytes", x.count(6), 0);
        types(x, "d4 5;");
        due("what was cleared is not told", x.house(), 1);
        due("goods", x.count(0), 0);
    }

    private static void fault(String text, int place) {
        PantryDoors x = with("g7 1 1 1;d3 4;");
        pass(x, 1);
        types(x, text);
        due("house of '" + text + "'", x.house(), -10 - place);
        due("bytes stay", x.count(6), text.length());
        due("goods stay", x.count(0), 1);
        due("the door stays", x.count(1) * 10 + x.count(2), 34);
        due("the day stays", x.now(0), 1);
        due("what is there stays", x.good(0, 4), 6);
        due("what may be undone stays", x.count(5), 1);
    }

    private static void stands(String text, int items) {
        PantryDoors x = new PantryDoors();
        types(x, text);
        due("house of '" + text + "'", x.house(), items);
        due("the text is empty", x.count(6), 0);
    }

    private static void houseFaults() {
        fault("g", 1);
        fault("g ", 2);
        fault("g1 1 1 1", 8);
        fault("g1 1 1 1  ", 10);
        fault(" x1;", 1);
        fault("gg1 1 1 1;", 0);
        fault("bm0 0 1;", 0);
        fault(";", 0);
        fault("1;", 0);
        fault("g1 1 1 1;;", 9);
        fault("g1 1 1 1 1;", 9);
        fault("g1 1 1;", 6);
        fault("g1 1 g 1;", 5);
        fault("G1 1 1 1;", 0);
        fault("g1 1 1 1,", 8);
        fault("g1 -1 1 1;", 3);
        fault("g01 1 1 1;", 1);
        fault("g00 1 1 1;", 1);
        fault("g100 1 1 1;", 1);
        fault("g99999999999999999999 1 1 1;", 1);
        fault("g1 4294967297 1 1;", 3);
        fault("g61 1 1 1;", 1);
        fault("g1 10 1 1;", 3);
        fault("g1 1 0 1;", 5);
        fault("g1 1 10 1;", 5);
        fault("g1 1 1 10;", 7);
        fault("b0 0 1;", 3);
        fault("g1 1 1 1;b20 0 1;", 10);
        fault("g1 1 1 1;m0 1 1;", 12);
        fault("m0 0 1;g1 1 1 1;", 3);
        fault("g1 1 1 1;b0 0 31;", 14);
        fault("g1 1 1 1;m0 0 31;", 14);
        fault("d0 1;", 1);
        fault("d10 1;", 1);
        fault("d1 0;", 3);
        fault("d1 10;", 3);
        fault("d1;", 2);
        fault("d1 1;d1 1;", 5);
        fault("g1 1 1 1;g1 1 1 1;g1 1 1 1;g1 1 1 1; g1 1 1 1;", 37);
        fault("d1 1;x 100 00 ~", 5);
        fault("d1\t1;", 2);
        fault("d1 1" + (char) 0 + ";", 4);
        fault("d1 1;" + (char) 255, 5);
    }

    private static void house() {
        houseFaults();
        stands("", 0);
        stands("   ", 0);
        stands(" g 60 9 9 9 ; b 19 0 30 ; m 0 0 0 ;d9 9; ", 4);
        stands("g0 0 1 0;g0 0 1 0;g0 0 1 0;g0 0 1 0;m19 3 30;", 5);
        PantryDoors x = with("g1 1 1 1;b0 0 5;b0 0 7;m0 0 3;m0 0 0;d9 8;");
        due("told again", x.day(0, 0, 0), 7);
        due("told again", x.day(0, 0, 1), 0);
        due("every", x.count(1), 9);
        due("back", x.count(2), 8);
        pass(x, 2);
        x.buys(0, 3);
        x.holds(1);
        x.saw(0, 1);
        x.gave(1, -1);
        x.keep(0);
        x.keep(1);
        x.mark(0, 0);
        types(x, "g5 1 1 1;");
        due("read anew", x.house(), 1);
        due("nothing brought", x.day(0, 0, 0), 0);
        due("every at first", x.count(1), 2);
        due("back at first", x.count(2), 3);
        for (int i = 3; i <= 6; i++) due("count(" + i + ")", x.count(i), 0);
        due("the day", x.now(0), 0);
        due("not held", x.now(2), 0);
        due("nobody was hungry", x.now(3), 0);
        due("there is", x.good(0, 4), 5);
        due("images are gone", x.back(0), STATE);
        due("images are gone", x.back(1), STATE);
        due("the trace stays", x.trace(), 1);
        due("an empty text", x.house(), 0);
        due("no goods", x.count(0), 0);
        toldAnew();
        due("nothing taken is left", with("").now(4), 0);
    }

    /** What an earlier text told, or one with a fault, is not told by a later one. */
    private static void toldAnew() {
        PantryDoors x = with("g9 9 9 9;g8 8 8 8;m0 0 30;b0 0 30;m19 1 30;b19 1 30;d5 6;");
        for (int times = 0; times < 3; times++) {
            types(x, "d4 4;g5 1 1 1;g5 1 1 1;m0 0 9;b0 0 9;m19 1 9;x");
            x.house();
            x.clear();
            types(x, "g3 1 2 4;g5 1 1 1;");
            due("house", x.house(), 2);
            due("the door", x.count(1) * 10 + x.count(2), 23);
            for (int what = 0; what <= 2; what++) {
                due("of day 0", x.day(0, 0, what), 0);
                due("of day 19", x.day(19, 1, what), 0);
            }
            pass(x, 5);
            due("hungry", x.now(3), 2);
            types(x, "d1 1;g3 1 2 4;m0 0 3;m1 0 3;");
            x.house();
            due("nobody was hungry", x.now(3), 0);
            x.goes();
            x.takes(0, 2);
            due("taken", x.now(4), 2);
        }
    }

    private static void good() {
        PantryDoors x = with(HOUSE);
        int[][] told = {{10, 4, 2, 3, 10, 0, 0}, {5, 2, 5, 7, 5, 0, 0}, {8, 1, 1, 1, 8, 0, 0}};
        for (int g = 0; g < 3; g++) {
            for (int w = 0; w <= 6; w++) due("good(" + g + ", " + w + ")", x.good(g, w), told[g][w]);
        }
        due("good(3, 0)", x.good(3, 0), BAD);
        due("good(-1, 0)", x.good(-1, 0), BAD);
        due("good(0, 7)", x.good(0, 7), BAD);
        due("good(0, -1)", x.good(0, -1), BAD);
        due("good(LOW, HIGH)", x.good(LOW, HIGH), BAD);
        pass(x, 4);
        due("there is", x.good(2, 4), 0);
        due("hungry", x.good(0, 5), 3);
        due("hungry", x.good(2, 5), 0);
        due("can be taken", x.good(0, 6), 2);
        due("can be taken", x.good(1, 6), 3);
        due("can be taken", x.good(2, 6), 0);
        x.takes(1, 2);
        due("less can be taken", x.good(1, 6), 1);
        x.holds(1);
        due("none through a door that is held", x.good(1, 6), 0);
        due("none at the end", atTheEnd().good(0, 6), 0);
    }

    private static void day() {
        PantryDoors x = with(HOUSE);
        due("brought", x.day(4, 0, 0), 9);
        due("missed", x.day(1, 1, 1), 3);
        due("untold", x.day(19, 2, 1), 0);
        pass(x, 4);
        x.takes(1, 2);
        x.takes(1, 1);
        due("taken", x.day(1, 1, 2), 3);
        due("not taken from there", x.day(4, 1, 2), 0);
        due("not taken of it", x.day(1, 0, 2), 0);
        due("missed is as told", x.day(1, 1, 1), 3);
        int[][] bad = {{20, 0, 0}, {-1, 0, 0}, {0, 3, 0}, {0, -1, 0}, {0, 0, 3}, {0, 0, -1}, {HIGH, HIGH, HIGH}};
        for (int[] b : bad) due("day of wrong numbers", x.day(b[0], b[1], b[2]), BAD);
    }

    private static void goes() {
        PantryDoors x = with(HOUSE);
        int[] lacks = {0, 2, 2, 2, 2, 2, 2, 3};
        int[][] there = {{0, 3, 7}, {0, 0, 6}, {0, 0, 5}, {0, 0, 0}, {5, 0, 0}, {1, 0, 0}, {0, 1, 0}, {0, 0, 0}};
        for (int d = 0; d < lacks.length; d++) {
            due("goes on day " + d, x.goes(), lacks[d]);
            due("the day", x.now(0), d + 1);
            for (int g = 0; g < 3; g++) due("there is of " + g, x.good(g, 4), there[d][g]);
        }
        PantryDoors end = with("g60 3 1 1;");
        for (int d = 0; d < 20; d++) due("goes", end.goes(), 0);
        due("60 are used in 20 days", end.good(0, 4), 0);
        due("the end", end.goes(), STATE);
        due("the day", end.now(0), 20);
        due("known", end.count(5), 10);
        PantryDoors order = with("g2 3 1 1;b0 0 4;m0 0 9;");
        due("brought, then missed, then used", order.goes(), 1);
        due("there is", order.good(0, 4), 0);
        PantryDoors none = with("g0 0 1 1;");
        due("nobody is hungry for what is not used", none.goes(), 0);
        PantryDoors full = with("g60 0 1 1;b0 0 30;");
        for (int i = 0; i < 104; i++) full.buys(0, 9);
        due("there is", full.good(0, 4), 996);
        full.goes();
        due("999 at most, brought", full.good(0, 4), 999);
    }

    private static void takes() {
        PantryDoors x = with(HOUSE);
        due("on day 0", x.takes(0, 1), STATE);
        pass(x, 4);
        due("more than was missed", x.takes(0, 3), STATE);
        due("takes", x.takes(0, 2), 2);
        due("takes what was taken", x.takes(0, 1), STATE);
        due("takes", x.takes(1, 1), 1);
        due("takes", x.takes(1, 2), 3);
        due("of what was not missed", x.takes(2, 1), STATE);
        due("taken in all", x.now(4), 5);
        due("takes(0, 0)", x.takes(0, 0), BAD);
        due("takes(0, 31)", x.takes(0, 31), BAD);
        due("takes(3, 1)", x.takes(3, 1), BAD);
        due("takes(-1, 1)", x.takes(-1, 1), BAD);
        x.goes();
        due("on a day on which it does not give", x.takes(1, 1), STATE);
        due("wrong ahead of state", x.takes(1, 31), BAD);
        x.goes();
        x.holds(1);
        due("through a door that is held", x.takes(2, 1), STATE);
        x.holds(0);
        due("30 is fine, but not there", x.takes(2, 30), STATE);
        due("takes", x.takes(2, 4), 4);
        PantryDoors full = with("d1 1;g60 0 1 1;m0 0 30;b0 0 30;");
        full.goes();
        for (int i = 0; i < 103; i++) full.buys(0, 9);
        due("there is", full.good(0, 4), 987);
        due("999 at most, taken", full.takes(0, 20), 999);
        due("all is taken from there", full.day(0, 0, 2), 20);
        due("taken though there is 999", full.takes(0, 10), 999);
        due("what was missed as told, not as there was", lessThere(), 2);
        PantryDoors end = atTheEnd();
        due("at the end", end.takes(0, 1), STATE);
        due("nothing was taken", end.day(19, 0, 2), 0);
        due("wrong ahead of the end", end.takes(0, 31), BAD);
        end.undo();
        due("on the last day", end.takes(0, 4), 60);
    }

    private static int lessThere() {
        PantryDoors x = with("d1 1;g1 0 1 1;m0 0 2;");
        x.goes();
        return x.takes(0, 2);
    }

    private static void buys() {
        PantryDoors x = with("g60 0 1 1;g0 1 1 1;");
        due("buys", x.buys(0, 9), 69);
        due("buys", x.buys(1, 1), 1);
        due("buys(0, 0)", x.buys(0, 0), BAD);
        due("buys(0, 10)", x.buys(0, 10), BAD);
        due("buys(2, 1)", x.buys(2, 1), BAD);
        due("buys(-1, 1)", x.buys(-1, 1), BAD);
        for (int i = 0; i < 103; i++) x.buys(0, 9);
        due("there is", x.good(0, 4), 996);
        due("999 at most", x.buys(0, 4), 999);
        due("there is 999", x.buys(0, 1), STATE);
        due("wrong ahead of state", x.buys(0, 10), BAD);
        due("undone", x.undo(), 9);
        due("there is", x.good(0, 4), 996);
        due("nothing was taken", x.now(4), 0);
    }

    private static void holds() {
        PantryDoors x = with(HOUSE);
        due("it is so", x.holds(0), STATE);
        pass(x, 4);
        due("held", x.holds(1), NONE);
        due("it is so", x.holds(1), STATE);
        due("held", x.now(2), 1);
        due("it gives on nothing", x.now(1), NONE);
        due("by its law", x.holds(0), 1);
        due("holds(2)", x.holds(2), BAD);
        due("holds(-1)", x.holds(-1), BAD);
        x.goes();
        x.holds(1);
        due("by its law, on a day on which it does not give", x.holds(0), NONE);
        due("known", x.count(5), 9);
        PantryDoors end = atTheEnd();
        due("held at the end", end.holds(1), NONE);
        due("by its law at the end: on nothing", end.holds(0), NONE);
        due("known", end.count(5), 10);
    }

    private static void undo() {
        PantryDoors x = with(HOUSE);
        due("none", x.undo(), STATE);
        pass(x, 4);
        x.takes(1, 2);
        x.buys(2, 7);
        x.holds(1);
        x.goes();
        due("known", x.count(5), 8);
        due("a day", x.undo(), 7);
        due("the day", x.now(0), 4);
        due("hungry as ahead of it", x.now(3), 6);
        due("held", x.now(2), 1);
        due("held undone", x.undo(), 6);
        due("held", x.now(2), 0);
        due("bought undone", x.undo(), 5);
        due("there is", x.good(2, 4), 0);
        due("taken undone", x.undo(), 4);
        due("there is", x.good(1, 4), 0);
        due("taken", x.now(4), 0);
        due("can be taken", x.good(1, 6), 3);
        for (int i = 3; i >= 0; i--) due("a day", x.undo(), i);
        due("there is", x.good(0, 4), 10);
        due("none", x.undo(), STATE);
        for (int i = 0; i < 12; i++) x.buys(0, 1);
        due("ten are known", x.count(5), 10);
        for (int i = 9; i >= 0; i--) due("bought", x.undo(), i);
        due("older ones are lost", x.good(0, 4), 12);
        due("none", x.undo(), STATE);
        x.buys(0, 99);
        x.takes(0, 1);
        x.holds(0);
        due("what was refused is not known", x.count(5), 0);
    }

    private static void now() {
        PantryDoors x = with(HOUSE);
        int[][] due = {{0, NONE, 0, 0, 0, 1}, {1, NONE, 0, 0, 0, 1}, {2, NONE, 0, 2, 0, 2}, {3, NONE, 0, 4, 0, 3},
            {4, 1, 0, 6, 0, 4}};
        for (int d = 0; d < due.length; d++) {
            for (int w = 0; w <= 5; w++) due("now(" + w + ") on day " + d, x.now(w), due[d][w]);
            x.goes();
        }
        due("now(6)", x.now(6), BAD);
        due("now(-1)", x.now(-1), BAD);
        PantryDoors y = with("d1 1;g20 1 1 1;g19 1 1 1;m0 0 5;m0 1 1;");
        due("the first of several goods", y.now(5), 15);
        y.goes();
        due("it gives", y.now(1), 0);
        y.takes(0, 3);
        y.takes(1, 1);
        due("taken, all goods", y.now(4), 4);
        due("first", y.now(5), 18);
        y.buys(0, 9);
        due("first of the other", y.now(5), 19);
        y.buys(1, 9);
        due("not till the end", y.now(5), NONE);
        pass(y, 19);
        due("the end", y.now(0), 20);
        due("at the end", y.now(5), NONE);
        due("nothing at the end, which is none of the days", y.now(1), NONE);
        y.undo();
        due("by its law on the last day", y.now(1), 18);
        for (int every = 1; every <= 9; every++) {
            for (int back = 1; back <= 9; back++) {
                PantryDoors end = with("d" + every + " " + back + ";");
                pass(end, 20);
                due("at the end by d" + every + " " + back, end.now(1), NONE);
            }
        }
    }

    /** A house at its end: by the law's letters the door would give on day 19, on which 5 were missed. */
    private static PantryDoors atTheEnd() {
        PantryDoors x = with("d1 1;g60 0 1 1;m18 0 4;m19 0 5;");
        pass(x, 20);
        return x;
    }

    private static void gives() {
        PantryDoors x = with("d2 4;");
        int[] to = {NONE, NONE, NONE, NONE, 0, NONE, 2, NONE, 4, NONE, 6, NONE, 8, NONE, 10, NONE, 12, NONE, 14, NONE};
        int[] on = {0, 0, 0, 0, 1, 0, 1, 0, 2, 0, 2, 0, 3, 0, 3, 0, 4, 0, 4, 0};
        int[] met = {1, 0, 1, 0, 2, 0, 2, 0, 2, 0, 2, 0, 2, 0, 2, 0, 1, 0, 1, 0};
        for (int held = 0; held < 2; held++) {
            for (int d = 0; d < 20; d++) {
                due("gives on day " + d, x.gives(d, 0), to[d]);
                due("goes on from " + d, x.gives(d, 1), on[d]);
                due("meets on " + d, x.gives(d, 2), met[d]);
            }
            x.holds(1);
        }
        due("gives(20, 0)", x.gives(20, 0), BAD);
        due("gives(-1, 0)", x.gives(-1, 0), BAD);
        due("gives(0, 3)", x.gives(0, 3), BAD);
        due("gives(0, -1)", x.gives(0, -1), BAD);
        due("all the way", with("d1 1;").gives(19, 1), 19);
        due("one step", with("d9 9;").gives(9, 0), 0);
    }

    private static void hungry() {
        PantryDoors x = with(HOUSE);
        int[] first = {0, 1, 2, 3, 3, 3, 4, 5};
        for (int n = 1; n <= 8; n++) due("hungry(0, " + n + ")", x.hungry(0, n), first[n - 1]);
        due("hungry(2, 20)", x.hungry(2, 20), 16);
        due("nothing is changed", x.good(2, 4), 8);
        due("hungry(0, 0)", x.hungry(0, 0), BAD);
        due("hungry(0, 21)", x.hungry(0, 21), BAD);
        due("hungry(3, 1)", x.hungry(3, 1), BAD);
        due("hungry(-1, 1)", x.hungry(-1, 1), BAD);
        pass(x, 18);
        due("days beyond the end", x.hungry(2, 20), 2);
        pass(x, 2);
        due("at the end", x.hungry(2, 20), 0);
    }

    private static void row(PantryDoors x, int n, int... due) {
        for (int k = -1; k <= 5; k++) {
            due("fed(" + n + ", " + k + ")", x.fed(n, k), k + 1 < due.length ? due[k + 1] : NONE);
        }
    }

    private static void fed() {
        // Ahead of days 1, 2, 3 there is, if nothing is taken: (0 4) (0 0) (0 0).
        PantryDoors x = with("d1 1;g2 1 1 1;g7 1 1 1;m0 0 2;m0 1 2;m1 1 3;");
        due("hungry on day 0", x.goes(), 1);
        row(x, 1, 1, 0);
        row(x, 2, 2, 0, 1);
        row(x, 3, NONE);
        PantryDoors day = with("d1 1;g5 1 1 1;m0 0 1;m1 0 1;");
        row(day, 3, 0, NONE, NONE, NONE);
        row(day, 4, 1, NONE, NONE, 0, NONE);
        row(day, 5, 2, NONE, 0, 0, NONE, NONE);
        row(day, 6, NONE);
        PantryDoors two = with("d1 1;g5 1 1 1;g5 1 1 1;m0 0 1;m1 0 1;m0 1 1;m1 1 1;");
        row(two, 4, 2, NONE, 0, 1, NONE);
        row(two, 5, NONE);
        // The first good wants day 1, or days 2 and 3; the second wants day 1.
        PantryDoors same = with("d1 1;g12 2 1 1;g4 2 1 1;m0 0 4;m1 0 1;m2 0 2;m0 1 2;b2 1 2;b3 1 2;");
        row(same, 4, 3, NONE, 1, 0, 0);
        PantryDoors late = with("d1 1;g9 2 1 1;m0 0 3;m1 0 1;m2 0 1;b3 0 1;");
        row(late, 3, 1, NONE, 0, NONE);
        PantryDoors held = with("d1 1;g1 1 1 1;m0 0 1;b0 0 1;");
        held.goes();
        row(held, 1, 1, 0);
        held.holds(1);
        row(held, 1, NONE);
        due("fed(0, 0)", x.fed(0, 0), BAD);
        due("fed(7, 0)", x.fed(7, 0), BAD);
        due("fed(1, -2)", x.fed(1, -2), BAD);
        due("fed(1, 6)", x.fed(1, 6), BAD);
        due("nothing is changed", x.now(4), 0);
        PantryDoors end = with("g60 3 1 1;");
        pass(end, 18);
        row(end, 6, 0, NONE, NONE);
        pass(end, 2);
        row(end, 6, 0);
    }

    private static void carry() {
        PantryDoors x = with("d1 1;g0 0 3 5;g0 0 2 3;g0 0 4 8;g0 0 1 0;m0 0 4;m0 1 5;m0 2 2;m0 3 9;");
        due("it gives on nothing", x.carry(10, -1), NONE);
        due("it gives on nothing", x.carry(10, 0), NONE);
        x.goes();
        int[][] due = {{0, 0, 0, 0, 0, 0}, {1, 0, 0, 0, 0, 0}, {2, 3, 0, 1, 0, 0}, {3, 5, 1, 0, 0, 0},
            {4, 8, 0, 0, 1, 0}, {6, 11, 0, 1, 1, 0}, {8, 16, 0, 0, 2, 0}, {10, 19, 0, 1, 2, 0},
            {12, 22, 0, 2, 2, 0}, {60, 51, 4, 5, 2, 0}};
        for (int[] d : due) {
            for (int g = -1; g < 4; g++) due("carry(" + d[0] + ", " + g + ")", x.carry(d[0], g), d[g + 2]);
        }
        x.takes(2, 1);
        due("what was taken can't be carried", x.carry(8, -1), 14);
        due("of several the first", x.carry(8, 0), 0);
        due("of several the first", x.carry(8, 1), 2);
        PantryDoors like = with("d1 1;g0 0 2 2;g0 0 1 1;m0 0 5;m0 1 9;");
        like.goes();
        due("as little of the first as can be", like.carry(10, 0), 1);
        due("the rest of the second", like.carry(10, 1), 8);
        due("carry(-1, 0)", x.carry(-1, 0), BAD);
        due("carry(61, 0)", x.carry(61, 0), BAD);
        due("carry(0, 4)", x.carry(0, 4), BAD);
        due("carry(0, -2)", x.carry(0, -2), BAD);
        x.holds(1);
        due("held", x.carry(8, -1), NONE);
        due("wrong ahead of none", x.carry(8, 4), BAD);
        due("at the end", atTheEnd().carry(60, -1), NONE);
        due("at the end", atTheEnd().carry(60, 0), NONE);
        PantryDoors most = with("d1 1;g0 0 9 9;g0 0 9 9;g0 0 1 9;g0 0 1 9;m0 0 30;m0 1 30;m0 2 30;m0 3 30;");
        most.goes();
        due("the most", most.carry(60, -1), 540);
    }

    private static void odds() {
        PantryDoors x = new PantryDoors();
        int[][] due = {{0, 0, 0, 1}, {10, 0, 0, 1}, {5, 0, 0, 1}, {0, 1, 1, 1}, {0, 9, 1, 1}, {10, 9, 0, 1},
            {5, 1, 1, 2}, {5, 9, 511, 512}, {2, 1, 4, 5}, {8, 2, 9, 25}, {4, 2, 21, 25}, {6, 3, 98, 125},
            {1, 9, 999999999, 1000000000}, {9, 9, 612579511, 1000000000}, {5, 2, 3, 4}};
        for (int[] d : due) {
            due("odds(" + d[0] + ", " + d[1] + ", 0)", x.odds(d[0], d[1], 0), d[2]);
            due("odds(" + d[0] + ", " + d[1] + ", 1)", x.odds(d[0], d[1], 1), d[3]);
        }
        int[][] bad = {{-1, 1, 0}, {11, 1, 0}, {1, -1, 0}, {1, 10, 0}, {1, 1, -1}, {1, 1, 2}, {LOW, HIGH, LOW}};
        for (int[] b : bad) due("odds of wrong numbers", x.odds(b[0], b[1], b[2]), BAD);
    }

    private static void store() {
        PantryDoors x = with(HOUSE);
        int[][] there = {{10, 5, 8}, {0, 3, 7}, {0, 0, 6}, {0, 0, 5}, {0, 0, 0}, {5, 0, 0}, {1, 0, 0}, {0, 1, 0}};
        for (int times = 0; times < 2; times++) {
            for (int d = 0; d < there.length; d++) {
                for (int g = 0; g < 3; g++) due("store(" + d + ", " + g + ")", x.store(d, g), there[d][g]);
            }
            x.buys(0, 9);
            pass(x, 4);
            x.takes(1, 3);
        }
        due("store(20, 0)", x.store(20, 0), 0);
        due("store(21, 0)", x.store(21, 0), BAD);
        due("store(-1, 0)", x.store(-1, 0), BAD);
        due("store(0, 3)", x.store(0, 3), BAD);
        due("store(0, -1)", x.store(0, -1), BAD);
        due("ahead of the end", with("g60 1 1 1;b19 0 7;").store(20, 0), 47);
    }

    private static void saw() {
        PantryDoors x = with("g60 3 1 1;");
        due("saw", x.saw(0, 0), 1);
        due("saw", x.saw(0, 999), 2);
        due("saw(0, -1)", x.saw(0, -1), BAD);
        due("saw(0, 1000)", x.saw(0, 1000), BAD);
        due("saw(1, 0)", x.saw(1, 0), BAD);
        due("saw(-1, 0)", x.saw(-1, 0), BAD);
        due("seen", x.count(3), 2);
        due("saw", x.saw(0, 0), 3);
        due("saw", x.saw(0, 0), 4);
        due("no more than 4", x.saw(0, 0), FULL);
        due("wrong ahead of full", x.saw(1, 0), BAD);
        due("seen", x.count(3), 4);
        due("gave", x.count(4), 0);
    }

    private static void days() {
        PantryDoors x = with(HOUSE);
        due("nothing seen", x.days(), (1 << 21) - 1);
        x.saw(0, 0);
        due("none of good 0", x.days(), (1 << 21) - 1 - (1 << 0) - (1 << 5) - (1 << 6));
        x.buys(0, 5);
        x.saw(1, 0);
        due("nor of good 1", x.days(), (1 << 21) - 1 - (1 << 0) - (1 << 1) - (1 << 5) - (1 << 6) - (1 << 7));
        x.saw(2, 5);
        due("on day 3", x.days(), 1 << 3);
        x.saw(2, 6);
        due("on none", x.days(), 0);
        PantryDoors y = with("g60 3 1 1;");
        y.saw(0, 0);
        due("at the end", y.days(), 1 << 20);
    }

    private static void look() {
        PantryDoors x = with(HOUSE);
        due("there is none on 18, 18, 17 of 21 days", x.look(), 2);
        x.saw(1, 0);
        due("on 16, 18, 16 of 18 days", x.look(), 0);
        x.forget();
        x.saw(0, 0);
        due("on 18, 16, 15 of 18 days", x.look(), 2);
        x.saw(2, 8);
        due("none of them", x.look(), NONE);
        due("one good", with("g9 0 1 1;").look(), 0);
        PantryDoors y = with("g60 0 1 1;g20 1 1 1;g60 3 1 1;");
        due("the lowest by which all differ", y.look(), 1);
        y.saw(0, 1);
        due("none of them", y.look(), NONE);
    }

    private static void gave() {
        PantryDoors x = new PantryDoors();
        due("gave", x.gave(0, -1), 1);
        due("gave", x.gave(19, 19), 2);
        due("gave(20, 0)", x.gave(20, 0), BAD);
        due("gave(-1, 0)", x.gave(-1, 0), BAD);
        due("gave(0, -2)", x.gave(0, -2), BAD);
        due("gave(0, 20)", x.gave(0, 20), BAD);
        due("gave(0, NONE)", x.gave(0, NONE), BAD);
        due("gave", x.gave(19, 0), 3);
        due("gave", x.gave(0, 0), 4);
        due("no more than 4", x.gave(0, 0), FULL);
        due("wrong ahead of full", x.gave(20, 0), BAD);
        due("gave", x.count(4), 4);
        due("seen", x.count(3), 0);
    }

    private static void laws() {
        PantryDoors x = new PantryDoors();
        due("all", x.laws(0), 81);
        due("the first", x.laws(1), 11);
        x.gave(0, -1);
        due("day 0 tells nothing", x.laws(0), 81);
        x.gave(6, 2);
        due("1, 2, 3, 6 divide 6", x.laws(0), 4);
        due("the first", x.laws(1), 14);
        x.gave(9, -1);
        due("1 and 3 divide 9", x.laws(0), 2);
        due("the first", x.laws(1), 24);
        x.gave(8, 4);
        due("2 divides 8", x.laws(0), 1);
        due("the first", x.laws(1), 24);
        x.forget();
        x.gave(4, -1);
        // Of each EVERY that does not divide 4 all 9; of 1, 2, 4 those that go back more than 4.
        due("on nothing", x.laws(0), 6 * 9 + 3 * 5);
        due("the first", x.laws(1), 15);
        x.gave(4, 0);
        due("none", x.laws(0), 0);
        due("none", x.laws(1), NONE);
        x.forget();
        x.gave(3, 5);
        due("a door does not give on a later day", x.laws(0), 0);
        due("laws(2)", x.laws(2), BAD);
        due("laws(-1)", x.laws(-1), BAD);
    }

    private static void forget() {
        PantryDoors x = with("g1 1 1 1;");
        due("nothing", x.forget(), 0);
        x.saw(0, 999);
        x.saw(0, 998);
        x.gave(1, 1);
        due("both", x.forget(), 3);
        due("seen", x.count(3), 0);
        due("gave", x.count(4), 0);
        due("days", x.days(), (1 << 21) - 1);
        due("laws", x.laws(0), 81);
        due("again", x.forget(), 0);
    }

    private static void mark() {
        PantryDoors x = with("g9 4 2 3;g5 2 5 7;g0 9 1 9;");
        pass(x, 3);
        // There is 0, 0, 0; hungry 1, 1, 3 times.
        x.buys(1, 6);
        int[][] due = {{0, 3, -1, 6, -1, 3}, {6, 13, 5, 26, 6, 9}, {0, 9, -3, 18, -1, 3}};
        long[] traces = {1, 11, 101, 1011, 10101, 100001};
        for (int g = 0; g < 3; g++) {
            for (int kind = 0; kind < 6; kind++) {
                long before = x.trace();
                due("mark(" + kind + ", " + g + ")", x.mark(kind, g), due[g][kind]);
                due("the trace of kind " + kind, x.trace() - before, traces[kind]);
            }
        }
        long before = x.trace();
        due("mark(6, 0)", x.mark(6, 0), NO);
        due("mark(-1, 0)", x.mark(-1, 0), NO);
        due("mark(0, 3)", x.mark(0, 3), NO);
        due("mark(0, -1)", x.mark(0, -1), NO);
        due("mark(LOW, HIGH)", x.mark(LOW, HIGH), NO);
        due("the trace", x.trace(), before);
    }

    private static void keep() {
        PantryDoors x = with(HOUSE);
        due("keep(0)", x.keep(0), 0);
        pass(x, 3);
        due("keep(1)", x.keep(1), 3);
        due("keep(2)", x.keep(2), BAD);
        due("keep(-1)", x.keep(-1), BAD);
        due("a kept image is not undone", x.count(5), 3);
        due("back(0)", x.back(0), 0);
        due("keep(1) again", x.keep(1), 0);
        pass(x, 2);
        due("the later one is kept", x.back(1), 0);
    }

    private static void back() {
        PantryDoors x = with(HOUSE);
        due("none was kept", x.back(0), STATE);
        due("back(2)", x.back(2), BAD);
        due("back(-1)", x.back(-1), BAD);
        pass(x, 4);
        x.takes(1, 2);
        x.holds(1);
        x.keep(1);
        due("none was kept as 0", x.back(0), STATE);
        x.holds(0);
        x.takes(1, 1);
        x.buys(0, 5);
        pass(x, 8);
        x.saw(0, 3);
        x.gave(2, -1);
        types(x, "xyz");
        x.mark(0, 0);
        long trace = x.trace();
        for (int times = 0; times < 2; times++) {
            due("back(1)", x.back(1), 4);
            due("the day", x.now(0), 4);
            due("held", x.now(2), 1);
            due("hungry", x.now(3), 6);
            due("taken", x.day(1, 1, 2), 2);
            due("there is", x.good(1, 4), 2);
            due("there is", x.good(0, 4), 0);
            due("may be undone", x.count(5), 6);
            due("undone", x.undo(), 5);
            due("not held", x.now(2), 0);
            due("undone", x.undo(), 4);
            due("taken", x.now(4), 0);
            due("undone", x.undo(), 3);
            due("the day", x.now(0), 3);
            due("seen stays", x.count(3), 1);
            due("gave stays", x.count(4), 1);
            due("the text stays", x.count(6), 3);
            due("the trace stays", x.trace(), trace);
            for (int i = 0; i < 12; i++) x.buys(2, 1);
        }
    }

    private static void count() {
        PantryDoors x = with("g1 1 1 1;g2 2 2 2;d7 8;");
        x.saw(0, 1);
        x.gave(0, -1);
        x.gave(1, -1);
        x.gave(2, -1);
        pass(x, 5);
        types(x, "g1 ");
        int[] counts = {2, 7, 8, 1, 3, 5, 3};
        for (int i = 0; i < counts.length; i++) due("count(" + i + ")", x.count(i), counts[i]);
        due("count(7)", x.count(7), BAD);
        due("count(-1)", x.count(-1), BAD);
    }

    private static void trace() {
        PantryDoors x = with("g1 1 1 1;");
        due("at first", x.trace(), 0);
        long sum = 0;
        long[] traces = {1, 11, 101, 1011, 10101, 100001};
        for (int i = 0; i < 60; i++) {
            x.mark(i % 6, 0);
            sum += traces[i % 6];
            due("trace", x.trace(), sum);
        }
        x.goes();
        x.undo();
        due("it is not undone", x.trace(), sum);
        due("of its own object", new PantryDoors().trace(), 0);
    }

    public static void main(String[] args) {
        Runnable[] promises = {PromiseTests::newObject, PromiseTests::type, PromiseTests::clear, PromiseTests::house,
            PromiseTests::good, PromiseTests::day, PromiseTests::goes, PromiseTests::takes, PromiseTests::buys,
            PromiseTests::holds, PromiseTests::undo, PromiseTests::now, PromiseTests::gives, PromiseTests::hungry,
            PromiseTests::fed, PromiseTests::carry, PromiseTests::odds, PromiseTests::store, PromiseTests::saw,
            PromiseTests::days, PromiseTests::look, PromiseTests::gave, PromiseTests::laws, PromiseTests::forget,
            PromiseTests::mark, PromiseTests::keep, PromiseTests::back, PromiseTests::count, PromiseTests::trace};
        for (Runnable p : promises) {
            promise++;
            p.run();
        }
        System.out.println(wrong == 0 ? "all " + promise + " promises hold" : wrong + " answers are not as due");
        if (wrong != 0) System.exit(1);
    }
}
