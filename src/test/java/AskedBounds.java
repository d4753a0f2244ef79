/** The bounds of what is asked, SEEN and GAVE (promises 13 to 24), sentence by sentence. */
public final class AskedBounds extends Bounds {
    private static final String FOUR = "g5 1 1 1;g6 1 1 2;g7 1 1 3;g8 1 1 4;";
    private static final int ALL_DAYS = (1 << 21) - 1;

    public static void main(String[] args) {
        run(AskedBounds.class);
    }

    @Says(promise = 13, words = "(Nothing is changed.)")
    static void nothingIsChanged() {
        unchanged("all that can be asked", Bounds::lived, x -> {
            for (int what = 0; what <= 2; what++) x.gives(4, what);
            for (int g = 0; g < 3; g++) x.hungry(g, 20);
            for (int n = 1; n <= 6; n++) x.fed(n, n - 2);
            for (int g = -1; g < 3; g++) x.carry(60, g);
            for (int g = 0; g < 3; g++) x.store(20, g);
            return x.now(5) + x.days() + x.look() + x.laws(0) + x.laws(1) + x.odds(9, 9, 0);
        });
        unchanged("at the end", Bounds::atTheEnd, x -> x.hungry(1, 20) + x.fed(6, -1) + x.carry(60, -1) + x.now(5));
    }

    // ---- promise 13

    @Says(promise = 13, words = "GIVES on a DAY d (0 .. 19): the DAY (NONE: nothing)")
    static void givesDay() {
        for (int what = 0; what <= 2; what++) {
            int w = what;
            int[] first = {NONE, 0, 1}, last = {18, 19, 1};
            bounds("gives(.., " + w + ")", () -> with("d1 1;"), (x, d) -> x.gives(d, w), 0, first[w], 19, last[w]);
            bounds("gives(.., " + w + "), lived", Bounds::lived, (x, d) -> x.gives(d, w), 0,
                w == 0 ? NONE : 0, 19, w == 0 ? NONE : 0);
        }
    }

    @Says(promise = 13, words = "GIVES (what = 0; NONE), GOES ON (1), MEETS (2). BAD.")
    static void givesWhat() {
        bounds("gives(4, ..)", Bounds::lived, (x, what) -> x.gives(4, what), 0, 1, 2, 1);
        unchanged("gives", Bounds::lived, x -> x.gives(4, 0) + x.gives(4, 1) + x.gives(4, 2));
        refused("gives(20, 3)", Bounds::lived, x -> x.gives(20, 3), BAD);
    }

    @Says(promise = 13, words = "it gives on a DAY that is BACK DAYS earlier, on each DAY that EVERY divides, if "
        + "there is such a DAY.")
    static void givesByEachLaw() {
        for (int every = 1; every <= 9; every++) {
            for (int back = 1; back <= 9; back++) {
                PantryDoors x = with("d" + every + " " + back + ";");
                for (int d = 0; d < 20; d++) {
                    int due = d % every == 0 && d - back >= 0 ? d - back : NONE;
                    due("d" + every + " " + back + ", gives(" + d + ", 0)", x.gives(d, 0), due);
                }
            }
        }
        due("back to day 0", with("d1 9;").gives(9, 0), 0);
        due("no day ahead of day 0", with("d1 9;").gives(8, 0), NONE);
        due("on day 0", with("d1 1;").gives(0, 0), NONE);
    }

    @Says(promise = 13, words = "THE DOOR not being HELD")
    static void givesThoughHeld() {
        PantryDoors x = lived();
        x.holds(1);
        due("gives(4, 0)", x.gives(4, 0), 1);
        due("gives(4, 1)", x.gives(4, 1), 1);
        due("gives(4, 2)", x.gives(4, 2), 1);
    }

    @Says(promise = 13, words = "GOES ON: how often one can go from a DAY d to where it gives, from there to where "
        + "it gives then, and so on.")
    static void goesOn() {
        PantryDoors one = with("d1 1;");
        for (int d = 0; d < 20; d++) due("d1 1, from " + d, one.gives(d, 1), d);
        PantryDoors nine = with("d9 9;");
        for (int d = 0; d < 20; d++) due("d9 9, from " + d, nine.gives(d, 1), d == 9 ? 1 : d == 18 ? 2 : 0);
        PantryDoors once = with("d2 3;");
        for (int d = 0; d < 20; d++) due("d2 3, from " + d, once.gives(d, 1), d % 2 == 0 && d > 2 ? 1 : 0);
        due("to day 1 at least, not beyond", with("d1 2;").gives(19, 1), 9);
    }

    @Says(promise = 13, words = "MEETS of a DAY: how many other DAYS give on it, and it on them, together.")
    static void meets() {
        PantryDoors one = with("d1 1;");
        for (int d = 0; d < 20; d++) due("d1 1, meets on " + d, one.gives(d, 2), d == 0 || d == 19 ? 1 : 2);
        PantryDoors nine = with("d9 9;");
        for (int d = 0; d < 20; d++) {
            due("d9 9, meets on " + d, nine.gives(d, 2), d == 9 ? 2 : d == 0 || d == 18 ? 1 : 0);
        }
        PantryDoors two = with("d2 1;");
        for (int d = 0; d < 20; d++) due("d2 1, meets on " + d, two.gives(d, 2), d == 0 || d == 19 ? 0 : 1);
    }

    // ---- promise 14

    @Says(promise = 14, words = "HUNGRY in n (1 .. 20) DAYS, if nothing else is done: how often, of a GOOD.")
    static void hungryDays() {
        bounds("hungry(0, ..)", () -> with("g0 1 1 1;"), (x, n) -> x.hungry(0, n), 1, 1, 20, 20);
        bounds("hungry(0, ..), lived", Bounds::lived, (x, n) -> x.hungry(0, n), 1, 0, 20, 14);
        bounds("hungry(.., 1)", Bounds::lived, (x, g) -> x.hungry(g, 1), 0, 0, 2, 0);
        bounds("hungry(.., 20)", () -> with(FOUR), (x, g) -> x.hungry(g, 20), 0, 15, 3, 12);
        refused("hungry(0, 1) of no goods", PantryDoors::new, x -> x.hungry(0, 1), BAD);
        unchanged("hungry", Bounds::lived, x -> x.hungry(0, 20));
        PantryDoors x = with("g3 1 1 1;");
        due("as much as there is", x.hungry(0, 3), 0);
        due("a day more", x.hungry(0, 4), 1);
        PantryDoors again = with("g0 9 1 1;b1 0 9;b2 0 8;b3 0 10;b4 0 8;");
        int[] due = {1, 1, 2, 2, 2, 3};
        for (int n = 1; n <= 6; n++) due("there is none behind a hungry day, n " + n, again.hungry(0, n), due[n - 1]);
    }

    @Says(promise = 14, words = "HUNGRY in n DAYS for a GOOD (DAYS beyond the end don't count). BAD.")
    static void hungryBeyondTheEnd() {
        String house = "g0 1 1 1;";
        due("day 1, 19", on(1, house).hungry(0, 19), 19);
        due("day 1, 20", on(1, house).hungry(0, 20), 19);
        due("day 18, 1", on(18, house).hungry(0, 1), 1);
        due("day 18, 2", on(18, house).hungry(0, 2), 2);
        due("day 18, 3", on(18, house).hungry(0, 3), 2);
        due("day 19, 1", on(19, house).hungry(0, 1), 1);
        due("day 19, 20", on(19, house).hungry(0, 20), 1);
        due("the end, 1", on(20, house).hungry(0, 1), 0);
        due("the end, 20", on(20, house).hungry(0, 20), 0);
        bounds("the end", () -> on(20, house), (x, n) -> x.hungry(0, n), 1, 0, 20, 0);
    }

    // ---- promise 15

    private static void row(PantryDoors x, int n, int... due) {
        for (int k = -1; k <= 5; k++) {
            due("fed(" + n + ", " + k + ")", x.fed(n, k), k + 1 < due.length ? due[k + 1] : NONE);
        }
    }

    @Says(promise = 15, words = "FED for n (1 .. 6) DAYS from NOW")
    static void fedDays() {
        bounds("fed(.., -1)", () -> with("g6 1 1 1;"), (x, n) -> x.fed(n, -1), 1, 0, 6, 0);
        bounds("fed(.., -1), lived", Bounds::lived, (x, n) -> x.fed(n, -1), 1, 0, 6, NONE);
        bounds("fed(.., 0)", Bounds::lived, (x, n) -> x.fed(n, 0), 1, NONE, 6, NONE);
        for (int n = 1; n <= 6; n++) {
            due("as much as there is, n " + n, with("g" + n + " 1 1 1;").fed(n, -1), 0);
            due("one less, n " + n, with("g" + (n - 1) + " 1 1 1;").fed(n, -1), NONE);
        }
        unchanged("fed", Bounds::lived, x -> x.fed(6, -1) + x.fed(2, 1) + x.fed(1, 0));
    }

    @Says(promise = 15, words = "FED: how many (k = -1), the k-th choice; NONE. BAD (k -1 .. 5).")
    static void fedChoice() {
        // On each of the days 7 .. 12 one is wanted, and one can be taken.
        Maker house = () -> on(7, "d1 7;g0 1 1 1;m0 0 1;m1 0 1;m2 0 1;m3 0 1;m4 0 1;m5 0 1;");
        bounds("fed(6, ..)", house, (x, k) -> x.fed(6, k), -1, 6, 5, 0);
        bounds("fed(1, ..)", house, (x, k) -> x.fed(1, k), -1, 1, 5, NONE);
        bounds("fed(6, ..), lived", Bounds::lived, (x, k) -> x.fed(6, k), -1, NONE, 5, NONE);
        row(house.make(), 6, 6, 0, 0, 0, 0, 0, 0);
        row(house.make(), 5, 5, 0, 0, 0, 0, 0);
        row(house.make(), 1, 1, 0);
        refused("fed(7, 6)", house, x -> x.fed(7, 6), BAD);
    }

    @Says(promise = 15, words = "(no more than there are)")
    static void fedNoMoreThanThereAre() {
        String house = "d1 1;g20 1 1 1;m18 0 1;";
        // One is missed on day 18; ahead of day 19 it can be taken, and is wanted then.
        row(on(13, house), 6, 0);
        row(on(14, house), 6, 1, NONE, NONE, NONE, NONE, NONE, 0);
        row(on(15, house), 6, 1, NONE, NONE, NONE, NONE, 0);
        row(on(18, house), 6, 1, NONE, 0);
        row(on(18, house), 2, 1, NONE, 0);
        row(on(18, house), 1, 0);
        row(on(19, house), 6, 1, 0);
        row(on(19, house), 1, 1, 0);
        row(on(20, house), 1, 0);
        row(on(20, house), 6, 0);
        row(on(20, "g0 9 1 1;"), 6, 0);
        row(on(19, "g0 9 1 1;"), 6, NONE);
    }

    @Says(promise = 15, words = "(none, or as much as can be TAKEN of one GOOD)")
    static void fedByOneChoiceADay() {
        PantryDoors two = on(1, "d1 1;g0 1 1 1;g0 1 1 1;m0 0 1;m0 1 1;");
        row(two, 1, NONE);
        two.takes(1, 1);
        row(two, 1, 1, 0);
        two.takes(0, 1);
        row(two, 1, 0);
        due("as much as is wanted", on(1, "d1 1;g0 9 1 1;m0 0 9;").fed(1, -1), 1);
        due("one less", on(1, "d1 1;g0 9 1 1;m0 0 8;").fed(1, -1), NONE);
        PantryDoors lessTaken = on(1, "d1 1;g0 9 1 1;m0 0 18;");
        lessTaken.takes(0, 1);
        due("17 more, 1 there: enough for two", lessTaken.fed(2, -1), 1);
        due("and not for three", lessTaken.fed(3, -1), NONE);
        PantryDoors held = on(1, "d1 1;g0 1 1 1;m0 0 1;");
        row(held, 1, 1, 0);
        held.holds(1);
        row(held, 1, NONE);
        row(on(1, "d3 1;g0 1 1 1;m0 0 1;m1 0 1;"), 1, NONE);
    }

    @Says(promise = 15, words = "that of fewest TAKEN, of several the first (DAY by DAY: none ahead of GOODS, these "
        + "by numbers)")
    static void fedFewestFirst() {
        PantryDoors more = on(1, "d1 1;g0 1 1 1;b1 0 1;m0 0 5;m1 0 1;");
        // What is brought on day 1 is missed on day 1: five are one taking, and enough for five days.
        row(more, 1, 1, 0);
        row(more, 5, 1, 0);
        row(more, 6, 2, 0, 0);
        PantryDoors late = with("d1 1;g6 2 1 1;m0 0 1;m1 0 1;");
        // On day 2 there is none, and two are wanted: one by the door of day 1, one by that of day 2.
        row(late, 2, 0, NONE, NONE);
        row(late, 3, 2, NONE, 0, 0);
        // On day 3 there is none, and one is wanted: by either door, but none is ahead of a good.
        PantryDoors free = with("d1 1;g5 1 1 1;m0 0 1;m1 0 1;");
        row(free, 4, 1, NONE, NONE, 0, NONE);
        PantryDoors goods = with("d1 1;g5 1 1 1;g5 1 1 1;m0 0 1;m1 0 1;m0 1 1;m1 1 1;");
        row(goods, 4, 2, NONE, 0, 1, NONE);
        // The first good wants the door of day 1, or those of days 2 and 3; the second wants that of day 1.
        PantryDoors same = with("d1 1;g12 2 1 1;g4 2 1 1;m0 0 4;m1 0 1;m2 0 2;m0 1 2;b2 1 2;b3 1 2;");
        row(same, 4, 3, NONE, 1, 0, 0);
        PantryDoors turned = with("d1 1;g4 2 1 1;g12 2 1 1;m0 1 4;m1 1 1;m2 1 2;m0 0 2;b2 0 2;b3 0 2;");
        row(turned, 4, 3, NONE, 0, 1, 1);
        row(new PantryDoors(), 6, 0);
    }

    @Says(promise = 15, words = "how many; the k-th choice (a GOOD; NONE: none, or not so many); NONE (there is no "
        + "such row).")
    static void fedNone() {
        PantryDoors x = with("d1 1;g3 1 1 1;m0 0 1;");
        row(x, 2, 0);
        row(x, 3, 1, NONE, 0, NONE);
        row(x, 4, NONE);
        row(x, 6, NONE);
        // Who is hungry on the first day is not fed by what is taken on the next.
        for (int n = 1; n <= 6; n++) row(with("d1 1;g0 1 1 1;m0 0 30;"), n, NONE);
        for (int n = 1; n <= 6; n++) row(with("g0 1 1 1;b1 0 30;"), n, NONE);
        PantryDoors bought = with("g0 1 1 1;");
        for (int n = 1; n <= 6; n++) row(bought, n, NONE);
        bought.buys(0, 3);
        for (int n = 6; n >= 1; n--) row(bought, n, n > 3 ? NONE : 0);
        for (int n = 1; n <= 6; n++) row(bought, n, n > 3 ? NONE : 0);
        bought.buys(0, 3);
        for (int n = 1; n <= 6; n++) row(bought, n, 0);
        bought.undo();
        row(bought, 4, NONE);
    }

    // ---- promise 16

    @Says(promise = 16, words = "CARRY of a WEIGHT (0 .. 60) from where THE DOOR gives NOW")
    static void carryWeight() {
        Maker house = () -> on(1, "d1 1;g0 0 2 3;g0 0 9 9;m0 0 30;m0 1 30;");
        bounds("carry(.., -1)", house, (x, w) -> x.carry(w, -1), 0, 0, 60, 90);
        bounds("carry(.., 0)", house, (x, w) -> x.carry(w, 0), 0, 0, 60, 30);
        bounds("carry(.., -1), lived", Bounds::lived, (x, w) -> x.carry(w, -1), 0, 0, 60, 13);
        unchanged("carry", Bounds::lived, x -> x.carry(60, -1) + x.carry(60, 1));
    }

    @Says(promise = 16, words = "CARRY: how much WORTH (g = -1), how much of a GOOD; NONE. BAD.")
    static void carryGood() {
        Maker house = () -> on(1, "d1 1;" + FOUR + "m0 0 1;m0 3 5;");
        bounds("carry(6, ..)", house, (x, g) -> x.carry(6, g), -1, 21, 3, 5);
        bounds("carry(6, ..), lived", Bounds::lived, (x, g) -> x.carry(6, g), -1, 7, 2, 0);
        Maker none = () -> pass(new PantryDoors(), 4);
        bounds("carry(6, ..), no goods", none, (x, g) -> x.carry(6, g), -1, 0, -1, 0);
    }

    @Says(promise = 16, words = "of all that can be TAKEN there, together no heavier")
    static void carryNoHeavier() {
        Maker house = () -> on(1, "d1 1;g0 0 9 5;g0 0 4 1;m0 0 2;m0 1 1;");
        int[][] due = {{3, 0, 0, 0}, {4, 1, 0, 1}, {8, 1, 0, 1}, {9, 5, 1, 0}, {12, 5, 1, 0}, {13, 6, 1, 1},
            {17, 6, 1, 1}, {18, 10, 2, 0}, {21, 10, 2, 0}, {22, 11, 2, 1}, {60, 11, 2, 1}};
        for (int[] d : due) {
            for (int g = -1; g < 2; g++) due("carry(" + d[0] + ", " + g + ")", house.make().carry(d[0], g), d[g + 2]);
        }
        PantryDoors x = house.make();
        x.takes(0, 1);
        due("less what was taken", x.carry(60, -1), 6);
        x.takes(0, 1);
        x.takes(1, 1);
        due("all was taken", x.carry(60, -1), 0);
        PantryDoors most = on(1, "d1 1;g0 0 1 9;g0 0 1 9;m0 0 30;m0 1 30;");
        due("all that can be carried", most.carry(60, -1), 540);
        due("one less", most.carry(59, -1), 531);
        PantryDoors fewer = on(1, "d1 1;g0 0 1 9;g0 0 1 9;g0 0 1 9;g0 0 1 9;m0 0 9;m0 1 9;m0 2 9;m0 3 9;");
        due("of four goods", fewer.carry(60, -1), 36 * 9);
        for (int goods = 3; goods >= 1; goods--) {
            types(fewer, "d1 1;" + "g0 0 1 1;".repeat(goods) + "m0 0 1;");
            fewer.house();
            fewer.goes();
            for (int w = 0; w <= 3; w++) due("read anew, of " + goods, fewer.carry(w, -1), Math.min(w, 1));
            due("read anew, of " + goods, fewer.carry(60, -1), 1);
        }
    }

    @Says(promise = 16, words = "that of most WORTH, of several the first (GOOD by GOOD: as little as can be)")
    static void carryFirst() {
        PantryDoors like = on(1, "d1 1;g0 0 1 1;g0 0 1 1;m0 0 9;m0 1 9;");
        int[][] due = {{0, 0, 0}, {1, 0, 1}, {9, 0, 9}, {10, 1, 9}, {18, 9, 9}, {60, 9, 9}};
        for (int[] d : due) {
            for (int g = 0; g < 2; g++) due("carry(" + d[0] + ", " + g + ")", like.carry(d[0], g), d[g + 1]);
        }
        PantryDoors worthless = on(1, "d1 1;g0 0 1 0;g0 0 1 1;m0 0 9;m0 1 9;");
        due("none of what is worth nothing", worthless.carry(60, 0), 0);
        due("all of what is worth something", worthless.carry(60, 1), 9);
        for (int w = 60; w >= 0; w--) due("not less than none, of weight " + w, worthless.carry(w, 0), 0);
    }

    @Says(promise = 16, words = "NONE (it gives on nothing).")
    static void carryNone() {
        String house = "d2 3;g0 0 1 1;m0 0 9;m1 0 9;m2 0 9;";
        for (int d : new int[] {0, 1, 2, 3, 5}) {
            for (int g = -1; g < 1; g++) due("carry(60, " + g + ") on day " + d, on(d, house).carry(60, g), NONE);
        }
        due("on day 4", on(4, house).carry(60, -1), 9);
        PantryDoors held = on(4, house);
        held.holds(1);
        due("held", held.carry(60, -1), NONE);
        due("held", held.carry(0, 0), NONE);
        due("at the end", atTheEnd().carry(60, -1), NONE);
        due("at the end", atTheEnd().carry(60, 0), NONE);
        due("on day 19", on(19, "d1 1;g0 0 1 1;m18 0 9;").carry(60, -1), 9);
        int[][] bad = {{-1, 0}, {61, 0}, {0, -2}, {0, 2}, {61, -1}};
        for (int[] b : bad) refused("BAD, not NONE", Bounds::atTheEnd, x -> x.carry(b[0], b[1]), BAD);
    }

    // ---- promise 17

    @Says(promise = 17, words = "ODDS by x (0 .. 10), n (0 .. 9)")
    static void oddsNumbers() {
        bounds("odds(.., 1, 0)", Bounds::lived, (x, s) -> x.odds(s, 1, 0), 0, 1, 10, 0);
        bounds("odds(.., 9, 1)", Bounds::lived, (x, s) -> x.odds(s, 9, 1), 0, 1, 10, 1);
        bounds("odds(9, .., 0)", Bounds::lived, (x, n) -> x.odds(9, n, 0), 0, 0, 9, 612579511);
        bounds("odds(9, .., 1)", Bounds::lived, (x, n) -> x.odds(9, n, 1), 0, 1, 9, 1000000000);
        bounds("odds(5, 1, ..)", Bounds::lived, (x, what) -> x.odds(5, 1, what), 0, 1, 1, 2);
        unchanged("odds", Bounds::lived, x -> x.odds(3, 3, 0));
        refused("odds(11, 10, 2)", Bounds::lived, x -> x.odds(11, 10, 2), BAD);
    }

    @Says(promise = 17, words = "each of n DAYS it sticks by x of 10, for itself: that it does not on one of them at "
        + "least: a fraction.")
    static void oddsAtEachEnd() {
        PantryDoors y = new PantryDoors();
        for (int x = 0; x <= 10; x++) {
            due("no days, x " + x, y.odds(x, 0, 0), 0);
            due("no days, x " + x, y.odds(x, 0, 1), 1);
        }
        for (int n = 1; n <= 9; n++) {
            due("it never sticks, n " + n, y.odds(0, n, 0), 1);
            due("it never sticks, n " + n, y.odds(0, n, 1), 1);
            due("it always sticks, n " + n, y.odds(10, n, 0), 0);
            due("it always sticks, n " + n, y.odds(10, n, 1), 1);
        }
        due("1 of 10 on one day", y.odds(1, 1, 0), 9);
        due("9 of 10 on one day", y.odds(9, 1, 0), 1);
        due("1 of 10 on nine days", y.odds(1, 9, 0), 999999999);
        due("1 of 10 on nine days", y.odds(1, 9, 1), 1000000000);
    }

    @Says(promise = 17, words = "upper (what = 0), lower number (1), in least terms.")
    static void oddsInLeastTerms() {
        PantryDoors y = new PantryDoors();
        for (int x = 0; x <= 10; x++) {
            for (int n = 0; n <= 9; n++) {
                long low = 1, sticks = 1;
                for (int i = 0; i < n; i++) {
                    low *= 10;
                    sticks *= x;
                }
                long a = low - sticks, b = low;
                while (b != 0) {
                    long rest = a % b;
                    a = b;
                    b = rest;
                }
                due("odds(" + x + ", " + n + ", 0)", y.odds(x, n, 0), (low - sticks) / a);
                due("odds(" + x + ", " + n + ", 1)", y.odds(x, n, 1), low / a);
            }
        }
        due("it sticks each time, over 1", y.odds(10, 9, 1), 1);
        due("no days, over 1", y.odds(0, 0, 1), 1);
        due("no days: on none of them", y.odds(0, 0, 0), 0);
    }

    // ---- promise 18

    @Says(promise = 18, words = "STORE of a GOOD on a DAY d (0 .. 20): what was there ahead of that DAY, as told")
    static void storeDay() {
        bounds("store(.., 0)", () -> with("g60 2 1 1;b19 0 30;"), (x, d) -> x.store(d, 0), 0, 60, 20, 50);
        bounds("store(.., 0), lived", Bounds::lived, (x, d) -> x.store(d, 0), 0, 10, 20, 0);
        bounds("store(0, ..)", Bounds::lived, (x, g) -> x.store(0, g), 0, 10, 2, 8);
        bounds("store(0, ..)", () -> with(FOUR), (x, g) -> x.store(0, g), 0, 5, 3, 8);
        refused("store(0, 0) of no goods", PantryDoors::new, x -> x.store(0, 0), BAD);
        unchanged("store", Bounds::lived, x -> x.store(20, 0));
        PantryDoors ahead = with("g9 0 1 1;b0 0 1;m19 0 2;");
        due("ahead of day 0", ahead.store(0, 0), 9);
        due("ahead of day 1", ahead.store(1, 0), 10);
        due("ahead of day 19", ahead.store(19, 0), 10);
        due("ahead of day 20", ahead.store(20, 0), 8);
    }

    @Says(promise = 18, words = "(nothing TAKEN, BOUGHT)")
    static void storeAsTold() {
        PantryDoors x = on(1, "d1 1;g9 1 1 1;m0 0 3;");
        for (int d = 0; d <= 20; d++) due("store(" + d + ", 0)", x.store(d, 0), d == 0 ? 9 : Math.max(0, 6 - d));
        x.buys(0, 9);
        x.takes(0, 3);
        x.holds(1);
        x.goes();
        for (int d = 0; d <= 20; d++) due("store(" + d + ", 0)", x.store(d, 0), d == 0 ? 9 : Math.max(0, 6 - d));
    }

    // ---- promise 19

    private static PantryDoors seen(int many) {
        PantryDoors x = lived();
        for (int i = 1; i < many; i++) x.saw(2, 0);
        return x;
    }

    @Says(promise = 19, words = "there was n (0 .. 999) of a GOOD.")
    static void sawHowMuch() {
        bounds("saw(0, ..)", () -> with("g9 1 1 1;"), (x, n) -> x.saw(0, n), 0, 1, 999, 1);
        bounds("saw(0, ..), lived", Bounds::lived, (x, n) -> x.saw(0, n), 0, 2, 999, 2);
        bounds("saw(.., 0)", Bounds::lived, (x, g) -> x.saw(g, 0), 0, 2, 2, 2);
        bounds("saw(.., 0)", () -> with(FOUR), (x, g) -> x.saw(g, 0), 0, 1, 3, 1);
        refused("saw(0, 0) of no goods", PantryDoors::new, x -> x.saw(0, 0), BAD);
    }

    @Says(promise = 19, words = "SEEN (4 at most)")
    static void sawFour() {
        PantryDoors x = with("g9 1 1 1;");
        for (int i = 1; i <= 4; i++) due("saw", x.saw(0, 9), i);
        due("a fifth", x.saw(0, 9), FULL);
        due("as many as there were", x.count(3), 4);
        due("the third", seen(2).saw(0, 0), 3);
        due("the fourth", seen(3).saw(0, 0), 4);
        refused("a fifth", () -> seen(4), y -> y.saw(0, 0), FULL);
        refused("a fifth, that is not so", () -> seen(4), y -> y.saw(1, 999), FULL);
        due("GAVE has room of its own", seen(4).gave(0, -1), 2);
        PantryDoors forgotten = seen(4);
        forgotten.forget();
        due("room again", forgotten.saw(0, 0), 1);
    }

    @Says(promise = 19, words = "SEEN: how much there is. BAD; FULL.")
    static void sawBadAheadOfFull() {
        int[][] bad = {{-1, 0}, {3, 0}, {LOW, 0}, {HIGH, 0}, {0, -1}, {0, 1000}, {0, LOW}, {0, HIGH}};
        for (int[] b : bad) refused("saw(" + b[0] + ", " + b[1] + ")", () -> seen(4), x -> x.saw(b[0], b[1]), BAD);
    }

    // ---- promise 20

    @Says(promise = 20, words = "on an unknown DAY (0 .. 20)")
    static void daysAtEachEnd() {
        due("nothing seen", new PantryDoors().days(), ALL_DAYS);
        due("nothing seen", with("g60 3 1 1;").days(), ALL_DAYS);
        for (int d = 0; d <= 20; d++) {
            PantryDoors x = with("g60 3 1 1;");
            x.saw(0, 60 - 3 * d);
            due("as on day " + d, x.days(), 1 << d);
        }
    }

    @Says(promise = 20, words = "WHICH DAYS (bits), by STORES, all that was SEEN is so.")
    static void daysAllSeen() {
        PantryDoors x = with("g3 1 1 1;g60 3 1 1;");
        x.saw(0, 0);
        due("from day 3 on", x.days(), ALL_DAYS - 7);
        x.saw(1, 51);
        due("day 3", x.days(), 8);
        x.saw(0, 0);
        due("the same again", x.days(), 8);
        x.saw(1, 48);
        due("the fourth is looked at too", x.days(), 0);
        PantryDoors none = with("g60 3 1 1;");
        none.saw(0, 61);
        due("none", none.days(), 0);
        unchanged("days", Bounds::lived, PantryDoors::days);
        PantryDoors bought = on(1, "g60 3 1 1;");
        bought.buys(0, 3);
        bought.saw(0, 60);
        due("by stores, not by what is there", bought.days(), 1);
    }

    // ---- promise 21

    @Says(promise = 21, words = "NONE (none of them, no GOODS).")
    static void lookNone() {
        due("no goods", new PantryDoors().look(), NONE);
        due("no goods told", with("d1 1;").look(), NONE);
        PantryDoors x = with("g60 3 1 1;");
        due("a good", x.look(), 0);
        x.saw(0, 57);
        due("one day", x.look(), 0);
        x.saw(0, 54);
        due("none of the days", x.look(), NONE);
        x.forget();
        due("all of them", x.look(), 0);
        unchanged("look", Bounds::lived, PantryDoors::look);
    }

    @Says(promise = 21, words = "the GOOD by which the greatest number of these on which there is alike is least, of "
        + "like ones the lowest")
    static void lookLeast() {
        due("of four like ones", with("g5 1 1 1;g5 1 1 1;g5 1 1 1;g5 1 1 1;").look(), 0);
        due("the last of four", with("g5 1 1 1;g5 1 1 1;g5 1 1 1;g6 1 1 1;").look(), 3);
        due("the first of four", with("g6 1 1 1;g5 1 1 1;g5 1 1 1;g5 1 1 1;").look(), 0);
        due("21 alike and 21 alike", with("g0 1 1 1;g0 0 1 1;").look(), 0);
        due("21 alike and 20 alike", with("g0 1 1 1;g1 1 1 1;").look(), 1);
        PantryDoors x = with("g20 1 1 1;g0 1 1 1;b0 1 2;");
        due("by stores all differ", x.look(), 0);
        x.saw(0, 20);
        due("one day, all alike", x.look(), 0);
        PantryDoors end = with("g9 0 1 1;g9 0 1 1;b18 0 1;b19 1 1;");
        // Of good 0 there is alike on days 0 .. 18, of good 1 on days 0 .. 19.
        due("day 20 counts", end.look(), 0);
        PantryDoors last = with("g9 0 1 1;g9 0 1 1;b19 1 1;");
        due("by day 20 alone", last.look(), 1);
        PantryDoors first = with("g9 0 1 1;g9 0 1 1;b0 1 1;");
        due("by day 0 alone", first.look(), 1);
        // One good parts the days into 7, 7 and 7, the other one into 10 and 11.
        due("11 and 7 of 21", with("g9 0 1 1;g9 0 1 1;b6 1 1;b13 1 1;b9 0 1;").look(), 1);
        due("7 and 11 of 21", with("g9 0 1 1;g9 0 1 1;b6 0 1;b13 0 1;b9 1 1;").look(), 0);
        due("alike on the later days", with("g7 1 1 1;g9 0 1 1;g9 0 1 1;g9 0 1 1;b9 1 1;").look(), 1);
        due("alike though not side by side", with("g9 0 1 1;g9 0 1 1;b6 0 1;m13 0 1;b9 1 1;").look(), 1);
    }

    // ---- promise 22

    private static PantryDoors gaves(int many) {
        PantryDoors x = lived();
        for (int i = 1; i < many; i++) x.gave(6, 3);
        return x;
    }

    @Says(promise = 22, words = "on a DAY THE DOOR gave on a DAY (or on nothing: -1)")
    static void gaveDays() {
        bounds("gave(.., 0)", Bounds::lived, (x, d) -> x.gave(d, 0), 0, 2, 19, 2);
        bounds("gave(.., -1)", PantryDoors::new, (x, d) -> x.gave(d, -1), 0, 1, 19, 1);
        bounds("gave(19, ..)", Bounds::lived, (x, to) -> x.gave(19, to), -1, 2, 19, 2);
        bounds("gave(0, ..)", PantryDoors::new, (x, to) -> x.gave(0, to), -1, 1, 19, 1);
        refused("gave(4, NONE)", Bounds::lived, x -> x.gave(4, NONE), BAD);
    }

    @Says(promise = 22, words = "GAVE (4 at most)")
    static void gaveFour() {
        PantryDoors x = new PantryDoors();
        for (int i = 1; i <= 4; i++) due("gave", x.gave(0, -1), i);
        due("a fifth", x.gave(0, -1), FULL);
        due("as many as there were", x.count(4), 4);
        due("the fourth", gaves(3).gave(0, -1), 4);
        refused("a fifth", () -> gaves(4), y -> y.gave(4, 1), FULL);
        refused("a fifth, on nothing", () -> gaves(4), y -> y.gave(4, -1), FULL);
        due("SEEN has room of its own", gaves(4).saw(0, 0), 2);
        PantryDoors forgotten = gaves(4);
        forgotten.forget();
        due("room again", forgotten.gave(0, -1), 1);
    }

    @Says(promise = 22, words = "GAVE (to -1: on nothing): how much there is. BAD; FULL.")
    static void gaveBadAheadOfFull() {
        int[][] bad = {{-1, 0}, {20, 0}, {LOW, 0}, {HIGH, 0}, {0, -2}, {0, 20}, {0, LOW}, {0, HIGH}};
        for (int[] b : bad) refused("gave(" + b[0] + ", " + b[1] + ")", () -> gaves(4), x -> x.gave(b[0], b[1]), BAD);
    }

    // ---- promise 23

    private static void lawsBy(int many, int first, int... gave) {
        PantryDoors x = new PantryDoors();
        for (int i = 0; i + 1 < gave.length; i += 2) x.gave(gave[i], gave[i + 1]);
        due("laws(0)", x.laws(0), many);
        due("laws(1)", x.laws(1), first);
    }

    @Says(promise = 23, words = "LAWS: how many (what = 0), the first (1; NONE). BAD.")
    static void lawsWhat() {
        bounds("laws(..)", PantryDoors::new, PantryDoors::laws, 0, 81, 1, 11);
        bounds("laws(..), lived", Bounds::lived, PantryDoors::laws, 0, 3, 1, 13);
        unchanged("laws", Bounds::lived, x -> x.laws(0) + x.laws(1));
    }

    @Says(promise = 23, words = "LAWS: twos of EVERY and BACK (1 .. 9) by which all that it GAVE is so: how many; "
        + "the first (10 times EVERY and BACK); NONE.")
    static void lawsAtEachEnd() {
        lawsBy(81, 11);
        lawsBy(1, 11, 1, 0);
        lawsBy(1, 99, 18, 9, 12, -1);
        lawsBy(3, 19, 9, 0);
        lawsBy(0, NONE, 10, 0);
        lawsBy(0, NONE, 19, 9);
        lawsBy(2, 19, 10, 1, 15, 6);
        lawsBy(0, NONE, 5, 5);
        lawsBy(0, NONE, 5, 6);
        lawsBy(0, NONE, 4, 1, 4, -1);
        lawsBy(81, 11, 0, -1);
        lawsBy(72, 21, 19, -1);
        lawsBy(0, NONE, 0, 0);
        lawsBy(3, 13, 4, 1);
        lawsBy(3, 13, 4, 1, 4, 1, 4, 1);
        lawsBy(2, 13, 4, 1, 4, 1, 4, 1, 6, 3);
    }

    // ---- promise 24

    @Says(promise = 24, words = "Nothing was SEEN, GAVE: how much both were.")
    static void forgotten() {
        refused("forget nothing", () -> with("g5 1 1 1;"), PantryDoors::forget, 0);
        due("one of each", lived().forget(), 2);
        PantryDoors x = seen(4);
        for (int i = 0; i < 3; i++) x.gave(0, -1);
        due("four of each", x.forget(), 8);
        due("SEEN", x.count(3), 0);
        due("GAVE", x.count(4), 0);
        due("days", x.days(), ALL_DAYS);
        due("laws", x.laws(0), 81);
        due("nothing more", x.forget(), 0);
        unchanged("forget and the same again", Bounds::lived, y -> y.forget() + y.saw(0, 0) + y.gave(4, 1));
    }
}
