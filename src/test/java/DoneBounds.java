/** The bounds of a house, of what is done in it and undone (promises 1, 5 to 12), sentence by sentence. */
public final class DoneBounds extends Bounds {
    private static final String FOUR = "g5 1 1 1;g6 1 1 2;g7 1 1 3;g8 1 1 4;";

    public static void main(String[] args) {
        run(DoneBounds.class);
    }

    // ---- promise 1

    @Says(promise = 1, words = "As told; no GOODS.")
    static void newObject() {
        PantryDoors x = new PantryDoors();
        int[] counts = {0, 2, 3, 0, 0, 0, 0};
        for (int w = 0; w <= 6; w++) due("count(" + w + ")", x.count(w), counts[w]);
        due("good(0, 0)", x.good(0, 0), BAD);
        due("day(0, 0, 0)", x.day(0, 0, 0), BAD);
        due("takes(0, 1)", x.takes(0, 1), BAD);
        due("buys(0, 1)", x.buys(0, 1), BAD);
        due("hungry(0, 1)", x.hungry(0, 1), BAD);
        due("carry(0, 0)", x.carry(0, 0), BAD);
        due("store(0, 0)", x.store(0, 0), BAD);
        due("saw(0, 0)", x.saw(0, 0), BAD);
        due("mark(0, 0)", x.mark(0, 0), NO);
        due("back(0)", x.back(0), STATE);
        due("back(1)", x.back(1), STATE);
        due("undo()", x.undo(), STATE);
        due("trace()", x.trace(), 0);
        due("a day without goods goes by", x.goes(), 0);
    }

    @Says(promise = 1, words = "The DAY is 0 at first; of each GOOD there is AT FIRST; nothing was TAKEN, nobody was "
        + "HUNGRY.")
    static void atFirst() {
        for (PantryDoors x : new PantryDoors[] {new PantryDoors(), with("d1 1;" + FOUR + "m0 0 5;m1 0 5;")}) {
            for (int w = 0; w <= 4; w++) due("now(" + w + ")", x.now(w), w == 1 ? NONE : 0);
            for (int g = 0; g < x.count(0); g++) {
                due("there is", x.good(g, 4), 5 + g);
                due("hungry", x.good(g, 5), 0);
                for (int d = 0; d < 20; d++) due("taken", x.day(d, g, 2), 0);
            }
        }
    }

    // ---- promise 5

    @Says(promise = 5, words = "GOODS 0 .. (4 at most)")
    static void goodNumber() {
        for (int goods = 1; goods <= 4; goods++) {
            String house = FOUR.substring(0, 9 * goods);
            bounds("good(.., 0)", () -> with(house), (x, g) -> x.good(g, 0), 0, 5, goods - 1, 4 + goods);
        }
        refused("good(0, 0) of no goods", PantryDoors::new, x -> x.good(0, 0), BAD);
        bounds("good(.., 4) of a lived house", Bounds::lived, (x, g) -> x.good(g, 4), 0, 0, 2, 7);
    }

    @Says(promise = 5, words = "Of a GOOD: 0 AT FIRST, 1 USE, 2 WEIGHT, 3 WORTH, 4 how much there is, 5 how often it "
        + "was HUNGRY, 6 how much can be TAKEN NOW")
    static void goodWhat() {
        bounds("good(0, ..)", Bounds::lived, (x, what) -> x.good(0, what), 0, 10, 6, 2);
        bounds("good(1, ..)", Bounds::lived, (x, what) -> x.good(1, what), 0, 5, 6, 1);
        bounds("good(2, ..)", Bounds::lived, (x, what) -> x.good(2, what), 0, 8, 6, 0);
        unchanged("good", Bounds::lived, x -> x.good(1, 6));
    }

    @Says(promise = 5, words = "6 how much can be TAKEN NOW (0: THE DOOR gives on nothing)")
    static void canBeTaken() {
        String house = "d2 2;g5 1 1 1;m0 0 30;m1 0 30;m2 0 1;";
        int[] due = {0, 0, 30, 0, 1, 0};
        for (int d = 0; d < due.length; d++) due("on day " + d, on(d, house).good(0, 6), due[d]);
        PantryDoors x = on(2, house);
        x.takes(0, 29);
        due("all but 29 of 30", x.good(0, 6), 1);
        x.takes(0, 1);
        due("all was taken", x.good(0, 6), 0);
        PantryDoors held = on(2, house);
        held.holds(1);
        due("held", held.good(0, 6), 0);
        held.holds(0);
        due("not held", held.good(0, 6), 30);
        due("on day 19", on(19, "d1 1;g60 0 1 1;m18 0 4;m19 0 5;").good(0, 6), 4);
        due("at the end", atTheEnd().good(0, 6), 0);
    }

    // ---- promise 6

    @Says(promise = 6, words = "Of a GOOD on a DAY (0 .. 19)")
    static void dayNumber() {
        Maker house = () -> with("g5 1 1 1;b0 0 3;b19 0 4;");
        bounds("day(.., 0, 0)", house, (x, d) -> x.day(d, 0, 0), 0, 3, 19, 4);
        Maker missed = () -> with("g5 1 1 1;m0 0 3;m19 0 4;");
        bounds("day(.., 0, 1)", missed, (x, d) -> x.day(d, 0, 1), 0, 3, 19, 4);
        Maker end = () -> {
            PantryDoors x = on(1, "d1 1;g5 1 1 1;m0 0 3;");
            x.takes(0, 2);
            return pass(x, 19);
        };
        bounds("day(.., 0, 2)", end, (x, d) -> x.day(d, 0, 2), 0, 2, 19, 0);
    }

    @Says(promise = 6, words = "0 BROUGHT, 1 MISSED, 2 TAKEN from there. BAD.")
    static void dayWhat() {
        Maker house = () -> {
            PantryDoors x = on(2, "d1 1;g5 1 1 1;b1 0 30;m1 0 29;");
            x.takes(0, 28);
            return x;
        };
        bounds("day(1, 0, ..)", house, (x, what) -> x.day(1, 0, what), 0, 30, 2, 28);
        bounds("day(2, 0, ..)", house, (x, what) -> x.day(2, 0, what), 0, 0, 2, 0);
        bounds("day(1, .., 1)", Bounds::lived, (x, g) -> x.day(1, g, 1), 0, 2, 2, 0);
        refused("day(0, 0, 0) of no goods", PantryDoors::new, x -> x.day(0, 0, 0), BAD);
        bounds("day of the fourth good", () -> with(FOUR + "b0 3 9;"), (x, g) -> x.day(0, g, 0), 0, 0, 3, 9);
    }

    // ---- promise 7

    @Says(promise = 7, words = "A DAY goes by (it is one more then; DAY 20 is the end)")
    static void end() {
        PantryDoors x = with("g5 1 1 1;");
        for (int d = 0; d < 20; d++) {
            due("the day", x.now(0), d);
            due("goes on day " + d, x.goes(), d < 5 ? 0 : 1);
        }
        due("the day", x.now(0), 20);
        due("hungry", x.now(3), 15);
    }

    @Says(promise = 7, words = "STATE: it is DAY 20.")
    static void noDayBehindTheEnd() {
        refused("goes at the end", Bounds::atTheEnd, PantryDoors::goes, STATE);
        refused("goes twice at the end", Bounds::atTheEnd, x -> Math.max(x.goes(), x.goes()), STATE);
        refused("goes at the end of no goods", () -> pass(new PantryDoors(), 20), PantryDoors::goes, STATE);
        PantryDoors x = atTheEnd();
        x.undo();
        due("the last day again", x.goes(), 1);
        due("the end again", x.goes(), STATE);
    }

    @Says(promise = 7, words = "then MISSED less (as much as there is)")
    static void missedAtMostWhatIsThere() {
        int[][] due = {{0, 5}, {1, 4}, {4, 1}, {5, 0}, {6, 0}, {30, 0}};
        for (int[] d : due) {
            PantryDoors x = with("g5 0 1 1;m0 0 " + d[0] + ";");
            due("nobody is hungry by what is missed", x.goes(), 0);
            due("5 less " + d[0], x.good(0, 4), d[1]);
        }
        PantryDoors none = with("g0 0 1 1;m0 0 1;");
        due("none is missed of none", none.goes(), 0);
        due("there is", none.good(0, 4), 0);
    }

    @Says(promise = 7, words = "of each GOOD there is BROUGHT more; then MISSED less (as much as there is); then USE "
        + "less")
    static void orderOfADay() {
        PantryDoors brought = with("g0 9 1 1;b0 0 9;");
        due("what is brought can be used", brought.goes(), 0);
        due("all of it", brought.good(0, 4), 0);
        PantryDoors missed = with("g2 0 1 1;b0 0 3;m0 0 5;");
        missed.goes();
        due("what is brought can be missed", missed.good(0, 4), 0);
        PantryDoors ahead = with("g9 9 1 1;m0 0 1;");
        due("what is missed can't be used", ahead.goes(), 1);
        due("there is", ahead.good(0, 4), 0);
    }

    @Says(promise = 7, words = "if there is not so much, all of it is used, and it is HUNGRY once more")
    static void hungryOnceMore() {
        int[][] due = {{5, 4, 0, 1}, {5, 5, 0, 0}, {4, 5, 1, 0}, {0, 0, 0, 0}, {0, 1, 1, 0}, {0, 9, 1, 0},
            {60, 9, 0, 51}};
        for (int[] d : due) {
            PantryDoors x = with("g" + d[0] + " " + d[1] + " 1 1;");
            due("goes, " + d[1] + " of " + d[0] + " used", x.goes(), d[2]);
            due("hungry", x.good(0, 5), d[2]);
            due("there is", x.good(0, 4), d[3]);
        }
        due("most times", on(20, "g0 1 1 1;").good(0, 5), 20);
    }

    @Says(promise = 7, words = "(All of the DAY that goes by.)")
    static void ofTheDayThatGoesBy() {
        PantryDoors x = with("g9 0 1 1;b0 0 1;b1 0 2;b19 0 4;m1 0 3;");
        int[] due = {9, 10, 9};
        for (int d = 0; d < 3; d++) {
            due("on day " + d, x.good(0, 4), due[d]);
            x.goes();
        }
        pass(x, 16);
        due("on day 19", x.good(0, 4), 9);
        x.goes();
        due("at the end", x.good(0, 4), 13);
    }

    @Says(promise = 7, words = "A DAY goes by: how many GOODS one is HUNGRY for in it.")
    static void hungryForHowMany() {
        due("no goods", new PantryDoors().goes(), 0);
        due("none of four", with(FOUR).goes(), 0);
        due("one of four", with("g1 1 1 1;g1 1 1 1;g1 1 1 1;g0 1 1 1;").goes(), 1);
        due("all of four", with("g0 1 1 1;g0 1 1 1;g0 1 1 1;g0 1 1 1;").goes(), 4);
        PantryDoors x = on(20, "g0 1 1 1;g0 1 1 1;g0 1 1 1;g0 1 1 1;");
        due("all of four, all days", x.now(3), 80);
    }

    // ---- promise 8

    private static PantryDoors missed30() {
        return on(1, "d1 1;g0 0 1 1;g0 0 1 1;m0 0 30;m0 1 1;");
    }

    @Says(promise = 8, words = "n (1 .. 30) of a GOOD")
    static void takesHowMuch() {
        bounds("takes(0, ..)", DoneBounds::missed30, (x, n) -> x.takes(0, n), 1, 1, 30, 30);
        bounds("takes(.., 1)", DoneBounds::missed30, (x, g) -> x.takes(g, 1), 0, 1, 1, 1);
        refused("takes(0, 1) of no goods", PantryDoors::new, x -> x.takes(0, 1), BAD);
    }

    @Says(promise = 8, words = "no more than was MISSED on that DAY less what was TAKEN of it from there: there is "
        + "so much more.")
    static void takesWhatWasMissed() {
        for (int missed : new int[] {1, 2, 15, 29, 30}) {
            Maker house = () -> on(1, "d1 1;g5 0 1 1;m0 0 " + missed + ";");
            int there = house.make().good(0, 4);
            due("takes all of " + missed, house.make().takes(0, missed), there + missed);
            if (missed < 30) refused("takes one more", house, x -> x.takes(0, missed + 1), STATE);
            Maker lessOne = () -> {
                PantryDoors x = house.make();
                x.takes(0, 1);
                return x;
            };
            if (missed > 1) due("takes the rest", lessOne.make().takes(0, missed - 1), there + missed);
            refused("takes one more than the rest", lessOne, x -> x.takes(0, missed), STATE);
        }
    }

    @Says(promise = 8, words = "STATE: THE DOOR gives on nothing, there is not so much to take.")
    static void takesThroughNothing() {
        String house = "d2 3;g5 0 1 1;g5 0 1 1;m0 0 3;m1 0 3;m2 0 3;m3 0 3;m4 0 3;";
        for (int d : new int[] {0, 1, 2, 3, 5}) refused("on day " + d, () -> on(d, house), x -> x.takes(0, 1), STATE);
        due("on day 4", on(4, house).takes(0, 1), 1);
        refused("of a good that was not missed", () -> on(4, house), x -> x.takes(1, 1), STATE);
        Maker held = () -> {
            PantryDoors x = on(4, house);
            x.holds(1);
            return x;
        };
        refused("through a door that is held", held, x -> x.takes(0, 1), STATE);
        refused("at the end", Bounds::atTheEnd, x -> x.takes(0, 1), STATE);
        due("on day 19", on(19, "d1 1;g5 0 1 1;m18 0 4;").takes(0, 4), 5);
    }

    @Says(promise = 8, words = "TAKEN: how much there is. BAD; STATE")
    static void takesBadAheadOfState() {
        int[][] bad = {{-1, 1}, {2, 1}, {LOW, 1}, {HIGH, 1}, {0, 0}, {0, 31}, {0, LOW}, {0, HIGH}, {0, -1}, {2, 31}};
        for (int[] b : bad) {
            refused("at the end, takes(" + b[0] + ", " + b[1] + ")", Bounds::atTheEnd, x -> x.takes(b[0], b[1]), BAD);
        }
    }

    @Says(promise = 8, words = "(999 is there at most, TAKEN or BOUGHT or BROUGHT)")
    static void takenAtMost() {
        due("968 and 30", stocked(968).takes(0, 30), 998);
        due("969 and 30", stocked(969).takes(0, 30), 999);
        due("970 and 30", stocked(970).takes(0, 30), 999);
        due("998 and 1", stocked(998).takes(0, 1), 999);
        PantryDoors x = stocked(999);
        due("999 and 1: it is taken all the same", x.takes(0, 1), 999);
        due("taken from there", x.day(0, 0, 2), 1);
        due("there is", x.good(0, 4), 999);
        due("of what can be taken, less one", x.good(0, 6), 29);
    }

    // ---- promise 9

    @Says(promise = 9, words = "BOUGHT: n (1 .. 9) of a GOOD")
    static void buysHowMuch() {
        bounds("buys(2, ..)", Bounds::lived, (x, n) -> x.buys(2, n), 1, 8, 9, 16);
        bounds("buys(.., 1)", Bounds::lived, (x, g) -> x.buys(g, 1), 0, 1, 2, 8);
        refused("buys(0, 1) of no goods", PantryDoors::new, x -> x.buys(0, 1), BAD);
        due("at the end", atTheEnd().buys(0, 9), 51 + 9);
        PantryDoors held = lived();
        held.holds(1);
        due("with a door that is held", held.buys(0, 9), 9);
    }

    @Says(promise = 9, words = "(999 is there at most, TAKEN or BOUGHT or BROUGHT)")
    static void boughtAtMost() {
        due("989 and 9", stocked(989).buys(0, 9), 998);
        due("990 and 9", stocked(990).buys(0, 9), 999);
        due("991 and 9", stocked(991).buys(0, 9), 999);
        due("998 and 1", stocked(998).buys(0, 1), 999);
        due("998 and 9", stocked(998).buys(0, 9), 999);
        due("of the other good", stocked(999).buys(1, 9), 13);
    }

    @Says(promise = 9, words = "STATE: there is 999.")
    static void noneBoughtMore() {
        refused("999 and 1", () -> stocked(999), x -> x.buys(0, 1), STATE);
        refused("999 and 9", () -> stocked(999), x -> x.buys(0, 9), STATE);
    }

    @Says(promise = 9, words = "BOUGHT: how much there is. BAD; STATE: there is 999.")
    static void buysBadAheadOfState() {
        int[][] bad = {{0, 0}, {0, 10}, {0, -1}, {0, LOW}, {0, HIGH}, {2, 1}, {-1, 1}};
        for (int[] b : bad) {
            refused("buys(" + b[0] + ", " + b[1] + ")", () -> stocked(999), x -> x.buys(b[0], b[1]), BAD);
        }
    }

    @Says(promise = 7, words = "(999 is there at most, TAKEN or BOUGHT or BROUGHT)")
    static void broughtAtMost() {
        for (int there : new int[] {968, 969, 970, 999}) {
            PantryDoors x = stocked(there);
            due("nobody is hungry", x.goes(), 0);
            due(there + " and 30", x.good(0, 4), Math.min(999, there + 30));
        }
        PantryDoors x = on(1, "g60 9 1 1;b0 0 9;b1 0 30;m1 0 30;");
        for (int i = 0; i < 105; i++) x.buys(0, 9);
        due("there is", x.good(0, 4), 999);
        x.goes();
        due("999 at most, then missed, then used", x.good(0, 4), 999 - 30 - 9);
    }

    // ---- promise 10

    private static PantryDoors held() {
        PantryDoors x = lived();
        x.holds(1);
        return x;
    }

    @Says(promise = 10, words = "HELD: THE DOOR gives on nothing (1), as by its law (0).")
    static void holdsOrNot() {
        bounds("holds(..)", DoneBounds::held, (x, is) -> x.holds(is), 0, 1, 1, STATE);
        bounds("holds(..)", Bounds::lived, (x, is) -> x.holds(is), 0, STATE, 1, NONE);
        due("held, it gives on", held().now(1), NONE);
        due("held, there is to take", held().good(1, 6), 0);
        due("not held, it gives on", lived().now(1), 1);
    }

    @Says(promise = 10, words = "HELD: the DAY on which it gives NOW then (NONE: nothing).")
    static void holdsAnswers() {
        due("holds(1)", lived().holds(1), NONE);
        due("holds(0)", held().holds(0), 1);
        due("holds(1), then holds(0) on a day without a door", holdTwice(with("d2 3;")), NONE);
        due("holds(1), then holds(0) on the first day", holdTwice(on(1, "d1 1;")), 0);
        due("holds(1), then holds(0) on day 19", holdTwice(on(19, "d1 1;")), 18);
        due("holds(1), then holds(0) at the end", holdTwice(atTheEnd()), NONE);
        PantryDoors days = with("d1 1;");
        days.holds(1);
        pass(days, 3);
        due("on the day that it is then", days.holds(0), 2);
    }

    private static int holdTwice(PantryDoors x) {
        x.holds(1);
        return x.holds(0);
    }

    @Says(promise = 10, words = "BAD; STATE: it is so.")
    static void holdsAsItIs() {
        refused("holds(0)", Bounds::lived, x -> x.holds(0), STATE);
        refused("holds(0) of a new object", PantryDoors::new, x -> x.holds(0), STATE);
        refused("held, holds(1)", DoneBounds::held, x -> x.holds(1), STATE);
        refused("holds(0) at the end", Bounds::atTheEnd, x -> x.holds(0), STATE);
    }

    // ---- promise 11

    @Says(promise = 11, words = "UNDONE: how many more may be. STATE: none.")
    static void undoneTillNone() {
        refused("of a new object", PantryDoors::new, PantryDoors::undo, STATE);
        refused("of a house read", () -> with("g5 1 1 1;"), PantryDoors::undo, STATE);
        Maker undone = () -> {
            PantryDoors x = on(2, "g5 1 1 1;");
            due("one more", x.undo(), 1);
            due("none more", x.undo(), 0);
            return x;
        };
        refused("of all undone", undone, PantryDoors::undo, STATE);
        due("as at first", undone.make().good(0, 4), 5);
    }

    @Says(promise = 11, words = "(10 are known, older ones are lost)")
    static void tenAreKnown() {
        for (int many : new int[] {9, 10, 11, 12, 25}) {
            PantryDoors x = with("g0 0 1 1;");
            for (int i = 0; i < many; i++) x.buys(0, 1);
            int known = Math.min(10, many);
            due("known of " + many, x.count(5), known);
            for (int i = known - 1; i >= 0; i--) due("undone of " + many, x.undo(), i);
            due("older ones of " + many, x.good(0, 4), many - known);
            due("no more of " + many, x.undo(), STATE);
            x.buys(0, 1);
            due("known anew", x.count(5), 1);
        }
    }

    @Says(promise = 11, words = "UNDONE: the latest DAY, TAKEN, BOUGHT, HELD")
    static void eachIsUndone() {
        unchanged("a day, undone", Bounds::lived, x -> x.goes() + x.undo());
        unchanged("taken, undone", Bounds::lived, x -> x.takes(1, 1) + x.undo());
        unchanged("bought, undone", Bounds::lived, x -> x.buys(0, 9) + x.undo());
        unchanged("held, undone", Bounds::lived, x -> x.holds(1) + x.undo());
        unchanged("two, undone", Bounds::lived, x -> x.goes() + x.buys(0, 9) + x.undo() + x.undo());
        for (int act = 0; act < 4; act++) {
            PantryDoors x = lived();
            int known = x.count(5);
            due("act " + act, act == 0 ? x.goes() : act == 1 ? x.takes(1, 1) : act == 2 ? x.buys(1, 1) : x.holds(1),
                act == 0 ? 0 : act == 3 ? NONE : 3);
            due("one more may be undone", x.count(5), known + 1);
            due("undone", x.undo(), known);
        }
    }

    @Says(promise = 11, words = "all is as ahead of it.")
    static void asAheadOfIt() {
        PantryDoors x = atTheEnd();
        x.undo();
        due("the day", x.now(0), 19);
        due("hungry as ahead of it", x.good(1, 5), 18);
        due("it gives", x.now(1), 18);
        PantryDoors taken = missed30();
        taken.takes(0, 30);
        taken.undo();
        due("all can be taken again", taken.takes(0, 30), 30);
        PantryDoors last = on(19, "d1 1;" + FOUR + "m18 3 9;");
        last.takes(3, 9);
        last.undo();
        due("of the last good and day", last.day(18, 3, 2), 0);
        due("all can be taken again", last.takes(3, 9), 9);
        PantryDoors full = stocked(998);
        full.buys(0, 9);
        full.undo();
        due("not 999 less 9", full.good(0, 4), 998);
        full.takes(0, 30);
        full.undo();
        due("not 999 less 30", full.good(0, 4), 998);
    }

    @Says(promise = 11, words = "Refused, and nothing changes")
    static void refusedIsNotKnown() {
        PantryDoors x = with("g5 1 1 1;");
        due("takes", x.takes(0, 1), STATE);
        due("takes", x.takes(0, 0), BAD);
        due("buys", x.buys(0, 10), BAD);
        due("holds", x.holds(0), STATE);
        due("holds", x.holds(2), BAD);
        due("nothing to be undone", x.count(5), 0);
        due("undo", x.undo(), STATE);
    }

    @Says(promise = 11, words = "Refused, and nothing changes, the first of these: BAD (a number is not as told, or "
        + "there is no such thing), STATE (as told), FULL.")
    static void orderOfRefusals() {
        Maker all = () -> {
            PantryDoors x = types(atTheEnd(), " ".repeat(150));
            for (int i = 0; i < 4; i++) {
                x.saw(0, 60);
                x.gave(0, -1);
            }
            return x;
        };
        refused("type", all, x -> x.type(' '), FULL);
        refused("type, BAD ahead of FULL", all, x -> x.type(256), BAD);
        refused("takes", all, x -> x.takes(0, 1), STATE);
        refused("takes, BAD ahead of STATE", all, x -> x.takes(0, 0), BAD);
        refused("takes of no such good", all, x -> x.takes(2, 1), BAD);
        refused("holds", all, x -> x.holds(0), STATE);
        refused("holds, BAD", all, x -> x.holds(2), BAD);
        refused("back", all, x -> x.back(0), STATE);
        refused("back, BAD ahead of STATE", all, x -> x.back(2), BAD);
        refused("saw", all, x -> x.saw(0, 60), FULL);
        refused("saw, BAD ahead of FULL", all, x -> x.saw(0, 1000), BAD);
        refused("saw of no such good", all, x -> x.saw(2, 60), BAD);
        refused("gave", all, x -> x.gave(0, -1), FULL);
        refused("gave, BAD ahead of FULL", all, x -> x.gave(20, -1), BAD);
        refused("goes", all, PantryDoors::goes, STATE);
        refused("buys", () -> stocked(999), x -> x.buys(0, 9), STATE);
        refused("buys, BAD ahead of STATE", () -> stocked(999), x -> x.buys(0, 10), BAD);
    }

    // ---- promise 12

    @Says(promise = 12, words = "0 the DAY, 1 the DAY on which THE DOOR gives NOW (NONE), 2 HELD (1, 0), 3 how often "
        + "it was HUNGRY, all GOODS together, 4 how much was TAKEN, all together, 5 FIRST (NONE). BAD.")
    static void nowWhat() {
        bounds("now(..)", Bounds::lived, PantryDoors::now, 0, 4, 5, 5);
        unchanged("now", Bounds::lived, x -> x.now(5));
        int[] due = {4, 1, 0, 6, 2, 5};
        for (int w = 0; w <= 5; w++) due("now(" + w + ")", lived().now(w), due[w]);
    }

    @Says(promise = 12, words = "1 the DAY on which THE DOOR gives NOW (NONE)")
    static void nowGives() {
        for (int every = 1; every <= 9; every++) {
            for (int back = 1; back <= 9; back++) {
                PantryDoors x = with("d" + every + " " + back + ";");
                for (int d = 0; d <= 20; d++) {
                    boolean gives = d % every == 0 && d >= back && d < 20;
                    due("d" + every + " " + back + ", on day " + d, x.now(1), gives ? d - back : NONE);
                    x.goes();
                }
            }
        }
        PantryDoors x = on(9, "d9 9;");
        x.holds(1);
        due("held", x.now(1), NONE);
    }

    @Says(promise = 12, words = "FIRST: the DAY on which one would be HUNGRY next for any GOOD; NONE (till the end).")
    static void first() {
        due("no goods", new PantryDoors().now(5), NONE);
        due("on this day", with("g0 1 1 1;").now(5), 0);
        due("on the next", with("g1 1 1 1;").now(5), 1);
        due("on the last", with("g19 1 1 1;").now(5), 19);
        due("not till the end", with("g20 1 1 1;").now(5), NONE);
        due("nothing is used", with("g0 0 1 1;").now(5), NONE);
        due("the last of four is the first", with("g9 1 1 1;g8 1 1 1;g7 1 1 1;g6 1 1 1;").now(5), 6);
        due("the first of four is the first", with(FOUR).now(5), 5);
        due("on day 19", on(19, "g0 1 1 1;").now(5), 19);
        due("at the end", on(20, "g0 1 1 1;").now(5), NONE);
        PantryDoors missed = with("g20 1 1 1;m19 0 1;");
        due("missed on the last day", missed.now(5), 19);
        missed.buys(0, 1);
        due("bought as much", missed.now(5), NONE);
        due("brought on the last day", with("g19 1 1 1;b19 0 1;").now(5), NONE);
        due("next, not the first of all", on(2, "g1 1 1 1;b2 0 1;").now(5), 3);
    }

    @Says(promise = 12, words = "3 how often it was HUNGRY, all GOODS together, 4 how much was TAKEN, all together")
    static void together() {
        PantryDoors x = on(1, "d1 1;g0 1 1 1;g0 1 1 1;g0 0 1 1;m0 0 30;m0 1 30;m0 2 30;m1 2 30;");
        due("hungry", x.now(3), 2);
        due("nothing taken", x.now(4), 0);
        for (int g = 0; g < 3; g++) x.takes(g, 30);
        due("of three goods", x.now(4), 90);
        x.goes();
        x.takes(2, 30);
        due("of two days", x.now(4), 120);
        x.buys(0, 9);
        due("what is bought is not taken", x.now(4), 120);
    }
}
