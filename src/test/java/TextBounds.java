/** The bounds of the text and of what it tells (promises 2, 3, 4), sentence by sentence. */
public final class TextBounds extends Bounds {
    private static final String FOUR = "g0 0 1 0;g0 0 1 0;g0 0 1 0;g0 0 1 0;";
    private static final String BLANKS = " ".repeat(150);

    public static void main(String[] args) {
        run(TextBounds.class);
    }

    /** The text is refused with this fault, and whatever was before stays, the text too. */
    private static void fault(String text, int place) {
        refused("house of '" + text + "'", () -> {
            PantryDoors x = lived();
            x.clear();
            return types(x, text);
        }, PantryDoors::house, -10 - place);
    }

    private static PantryDoors stands(String text, int items) {
        PantryDoors x = types(new PantryDoors(), text);
        due("house of '" + text + "'", x.house(), items);
        due("bytes after '" + text + "'", x.count(6), 0);
        return x;
    }

    private static PantryDoors textOf(int bytes) {
        return types(lived(), BLANKS.substring(0, bytes - 14));
    }

    // ---- promise 2

    @Says(promise = 2, words = "A byte (0 .. 255) comes to THE TEXT: how many it has.")
    static void byteBounds() {
        bounds("type", Bounds::lived, PantryDoors::type, 0, 15, 255, 15);
    }

    @Says(promise = 2, words = "They are a text (150 bytes at most)")
    static void textLength() {
        PantryDoors x = new PantryDoors();
        for (int n = 1; n <= 150; n++) due("byte " + n, x.type('d'), n);
        due("byte 151", x.type('d'), FULL);
        due("the last that has room", textOf(149).type(' '), 150);
        for (int c : new int[] {0, ';', 255}) refused("byte 151, " + c, () -> textOf(150), y -> y.type(c), FULL);
        PantryDoors cleared = textOf(150);
        due("clear", cleared.clear(), 150);
        due("room again when it is cleared", cleared.type('d'), 1);
        PantryDoors read = textOf(150);
        due("house of 150 bytes", read.house(), 2);
        due("room again when it is read", read.type('d'), 1);
    }

    @Says(promise = 2, words = "comes to THE TEXT: how many it has. BAD; FULL.")
    static void badAheadOfFull() {
        for (int c : new int[] {-1, 256, LOW, HIGH}) {
            refused("byte 151, " + c, () -> textOf(150), x -> x.type(c), BAD);
        }
    }

    // ---- promise 3

    @Says(promise = 3, words = "THE TEXT is empty: how many bytes it had.")
    static void cleared() {
        for (int n : new int[] {0, 1, 149, 150}) {
            PantryDoors x = types(new PantryDoors(), BLANKS.substring(0, n));
            due("clear of " + n, x.clear(), n);
            due("bytes after it", x.count(6), 0);
            due("clear of nothing", x.clear(), 0);
        }
        PantryDoors x = types(new PantryDoors(), "g");
        x.clear();
        due("house of what was cleared", x.house(), 0);
        unchanged("clear and the same text again", Bounds::lived, y -> {
            int had = y.clear();
            types(y, "d7 8;g1 2 3 4;");
            return had;
        });
    }

    // ---- promise 4: how many items, where the fault is

    @Says(promise = 4, words = "THE TEXT tells all, and is empty then: how many ITEMS.")
    static void items() {
        due("goods of no items", stands("", 0).count(0), 0);
        due("goods of blanks", stands(" ", 0).count(0), 0);
        stands(BLANKS, 0);
        stands("d1 1;", 1);
        stands("d1 1;" + FOUR + "b0 0 0;".repeat(15), 20);
        PantryDoors x = with("g5 1 1 1;d9 9;");
        due("house of the empty text", x.house(), 0);
        due("no goods then", x.count(0), 0);
        due("the door as at first", x.count(1) * 10 + x.count(2), 23);
        due("no such good", x.good(0, 0), BAD);
    }

    @Says(promise = 4, words = "-10 less FAULT: nothing changes.")
    static void faultAtEachEnd() {
        fault("~", 0);
        fault(" ~", 1);
        fault(BLANKS.substring(1) + "~", 149);
        fault("~" + BLANKS.substring(1), 0);
        fault(BLANKS.substring(1) + "d", 150);
        fault("d" + BLANKS.substring(1), 150);
    }

    @Says(promise = 4, words = "-10 less FAULT: nothing changes.")
    static void whatWasReadAheadOfTheFault() {
        fault("d9 9;g1 1 1 1;g2 2 2 2;g3 3 3 3;g4 4 4 4;b0 0 30;m0 0 30;m19 3 30;~", 66);
        PantryDoors x = types(new PantryDoors(), "g1 1 1 1;d1 1;x");
        due("house", x.house(), -24);
        due("the text stays", x.clear(), 15);
        types(x, "g1 1 1 1;d1 1;");
        due("neither good nor door is told yet", x.house(), 2);
    }

    @Says(promise = 4, words = "FAULT: the place of the first byte of the first TOKEN that can't stand there")
    static void firstOfSeveral() {
        fault("d0 0;", 1);
        fault("d1 0;~", 3);
        fault("x ~ 100 00", 0);
        fault("d1 1;~ x", 5);
        fault("d1 1 100;", 5);
        fault("g61 10 10 10", 1);
        fault("d 1 1 ; xyz 1", 8);
    }

    @Says(promise = 4, words = "the text's length, if it ends too early.")
    static void endsTooEarly() {
        for (String item : new String[] {"g1 2 3 4;", "b0 0 1;", "m0 0 1;", "d1 2;"}) {
            String ahead = item.startsWith("g") || item.startsWith("d") ? "" : "g1 1 1 1;";
            for (int n = 1; n < item.length(); n++) {
                String text = ahead + item.substring(0, n);
                fault(text, text.length());
                fault(text + "  ", text.length() + 2);
            }
            stands(ahead + item, ahead.isEmpty() ? 1 : 2);
        }
        String full = BLANKS.substring(0, 146) + "d1 1";
        fault(full, 150);
    }

    @Says(promise = 4, words = "ended by ;")
    static void ended() {
        stands("d1 1;", 1);
        fault("d1 1;;", 5);
        fault(";d1 1;", 0);
        fault("d1 1:", 4);
        fault("d1 1<", 4);
        fault("d1 1 g1 1 1 1;", 5);
        fault("d1 1 1;", 5);
        fault("d1;", 2);
        fault("d;", 1);
        fault("g1 1 1;", 6);
        fault("g1 1 1 1 1;", 9);
        fault("g1 1 1 1;b0 0;", 13);
        fault("g1 1 1 1;m0 0 1 1;", 16);
    }

    // ---- promise 4: tokens

    @Says(promise = 4, words = "read byte by byte, blanks (32) between TOKENS")
    static void blanks() {
        PantryDoors x = stands("  g 1   2 3 4 ;d 5 6 ;  ", 2);
        due("use", x.good(0, 1), 2);
        due("every", x.count(1), 5);
        stands("d1 1;g1 1 1 1;", 2);
        fault("g1 0 4 2 3;", 9);
        fault("g g1 1 1 1;", 2);
        for (int c : new int[] {0, 9, 10, 13, 31, 33, 160, 255}) {
            fault((char) c + "d1 1;", 0);
            fault("d1" + (char) c + "1;", 2);
            fault("d1 1;" + (char) c, 5);
        }
    }

    @Says(promise = 4, words = "TOKENS are letters a .. z side by side, NUMBERS and ;")
    static void letters() {
        for (char c : new char[] {'a', 'g', 'z'}) fault("g" + c + "1 1 1 1;", 0);
        for (char c : new char[] {'`', '{', 'A', 'G', 'Z', '@', '['}) fault("g" + c + "1 1 1 1;", 1);
        fault("dd1 1;", 0);
        fault("dg1 1;", 0);
        fault("d1d1;", 2);
        // Letters are no number, whatever a byte's number is, and a number begins no item.
        fault("g gg 1 1 1;", 2);
        fault("g1 1 1 1;98 0 0 1;", 9);
        fault("d a a;", 2);
    }

    @Says(promise = 4, words = "letters that begin no ITEM")
    static void noItem() {
        for (char c = 'a'; c <= 'z'; c++) {
            if ("gbmd".indexOf(c) < 0) fault(" " + c + "1 1 1 1;", 1);
        }
        for (char c : new char[] {'G', 'B', 'M', 'D'}) fault(" " + c + "1 1 1 1;", 1);
        fault("1 1;", 0);
        fault("g1 1 1 1;bb0 0 1;", 9);
        fault("g1 1 1 1;mm0 0 1;", 9);
    }

    @Says(promise = 4, words = "of a byte that begins none")
    static void byteThatBeginsNone() {
        for (int c = 0; c <= 255; c++) {
            boolean begins = c == ' ' || c == ';' || c >= '0' && c <= '9' || c >= 'a' && c <= 'z';
            PantryDoors x = types(new PantryDoors(), "d1 1" + (char) c + ";");
            // A digit makes the number 10 and more; letters, another ; and nothing else are tokens of their own.
            int place = c == ' ' ? -1 : c == ';' ? 5 : c >= '0' && c <= '9' ? 3 : 4;
            due("house with byte " + c, x.house(), begins && place < 0 ? 1 : -10 - place);
        }
        fault("d1 1/;", 4);
        fault("d1 1:;", 4);
        fault("d-1 1;", 1);
        fault("d+1 1;", 1);
        fault("d1,1;", 2);
        fault("d1.1;", 2);
    }

    @Says(promise = 4, words = "a NUMBER above 99 or with a 0 ahead of others, that TOKEN's")
    static void numbers() {
        stands("g0 0 1 0;", 1);
        due("two digits, 0 behind", stands("g10 0 1 0;", 1).good(0, 0), 10);
        due("two digits", stands("g59 0 1 0;", 1).good(0, 0), 59);
        for (String n : new String[] {"99", "100", "101", "999", "00", "01", "09", "010", "000", "060",
            "256", "65536", "4294967296", "4294967297", "18446744073709551616", "18446744073709551617"}) {
            fault("g" + n + " 1 1 1;", 1);
            fault("g1 " + n + " 1 1;", 3);
            fault("g1 1 1 " + n + ";", 7);
            fault("d" + n + " 1;", 1);
            fault("d1 " + n + ";", 3);
            fault("g1 1 1 1;b" + n + " 0 1;", 10);
            fault("g1 1 1 1;m0 " + n + " 1;", 12);
            fault("g1 1 1 1;m0 0 " + n + ";", 14);
        }
    }

    // ---- promise 4: what is told

    @Says(promise = 4, words = "GOODS 0 .. (4 at most)")
    static void goods() {
        for (int n = 0; n <= 4; n++) {
            PantryDoors x = stands(FOUR.substring(0, 9 * n), n);
            due("goods", x.count(0), n);
            for (int g = 0; g < n; g++) due("good " + g + " of " + n, x.good(g, 2), 1);
            due("good " + n + " of " + n, x.good(n, 2), BAD);
        }
    }

    @Says(promise = 4, words = "a fifth GOOD")
    static void fifthGood() {
        fault(FOUR + "g0 0 1 0;", 36);
        fault(FOUR + "d1 1; g0 0 1 0;", 42);
        fault(FOUR + "g", 36);
        stands(FOUR + "d1 1;", 5);
        PantryDoors x = with(FOUR);
        types(x, FOUR);
        due("four again in the next text", x.house(), 4);
    }

    private static void told(String before, String after, int place, int least, int most, int beyond) {
        stands(before + least + after, 1);
        stands(before + most + after, 1);
        if (least > 0) fault(before + (least - 1) + after, place);
        fault(before + "-1" + after, place);
        fault(before + beyond + after, place);
    }

    @Says(promise = 4, words = "AT FIRST (0 .. 60)")
    static void atFirst() {
        told("g", " 1 1 1;", 1, 0, 60, 61);
        due("least", with("g0 1 1 1;").good(0, 0), 0);
        due("most", with("g60 1 1 1;").good(0, 0), 60);
    }

    @Says(promise = 4, words = "USE a day (0 .. 9)")
    static void use() {
        told("g1 ", " 1 1;", 3, 0, 9, 10);
        due("least", with("g1 0 1 1;").good(0, 1), 0);
        due("most", with("g1 9 1 1;").good(0, 1), 9);
    }

    @Says(promise = 4, words = "WEIGHT (1 .. 9)")
    static void weight() {
        told("g1 1 ", " 1;", 5, 1, 9, 10);
        due("least", with("g1 1 1 1;").good(0, 2), 1);
        due("most", with("g1 1 9 1;").good(0, 2), 9);
    }

    @Says(promise = 4, words = "WORTH (0 .. 9)")
    static void worth() {
        told("g1 1 1 ", ";", 7, 0, 9, 10);
        due("least", with("g1 1 1 0;").good(0, 3), 0);
        due("most", with("g1 1 1 9;").good(0, 3), 9);
    }

    @Says(promise = 4, words = "BROUGHT, MISSED of a GOOD on a DAY (0 .. 30 each; 0, untold)")
    static void broughtAndMissed() {
        for (int what = 0; what < 2; what++) {
            String item = what == 0 ? "b" : "m";
            due("untold", with("g1 1 1 1;").day(0, 0, what), 0);
            due("least", with("g1 1 1 1;" + item + "0 0 0;").day(0, 0, what), 0);
            due("most", with("g1 1 1 1;" + item + "0 0 30;").day(0, 0, what), 30);
            due("of the other", with("g1 1 1 1;" + item + "0 0 30;").day(0, 0, 1 - what), 0);
            fault("g1 1 1 1;" + item + "0 0 31;", 14);
            fault("g1 1 1 1;" + item + "0 0 -1;", 14);
        }
    }

    @Says(promise = 4, words = "b D G N, m D G N (BROUGHT, MISSED: a DAY,")
    static void dayTold() {
        for (int what = 0; what < 2; what++) {
            String item = what == 0 ? "b" : "m";
            due("on day 0", with("g1 1 1 1;" + item + "0 0 7;").day(0, 0, what), 7);
            due("on day 19", with("g1 1 1 1;" + item + "19 0 7;").day(19, 0, what), 7);
            due("on day 18", with("g1 1 1 1;" + item + "19 0 7;").day(18, 0, what), 0);
            fault("g1 1 1 1;" + item + "20 0 7;", 10);
            fault("g1 1 1 1;" + item + "-1 0 7;", 10);
        }
    }

    @Says(promise = 4, words = "a GOOD told ahead")
    static void toldAhead() {
        for (String item : new String[] {"b", "m"}) {
            for (int goods = 0; goods <= 4; goods++) {
                String ahead = FOUR.substring(0, 9 * goods);
                if (goods > 0) {
                    PantryDoors x = stands(ahead + item + "3 " + (goods - 1) + " 7;", goods + 1);
                    due("of the last good", x.day(3, goods - 1, item.equals("b") ? 0 : 1), 7);
                }
                fault(ahead + item + "3 " + goods + " 7;", 9 * goods + 3);
            }
            fault(item + "3 0 7;g1 1 1 1;", 3);
            fault("g1 1 1 1;" + item + "3 1 7;g1 1 1 1;", 12);
        }
    }

    @Says(promise = 4, words = "told again: the later")
    static void toldAgain() {
        for (int what = 0; what < 2; what++) {
            String item = what == 0 ? "b" : "m";
            due("more", with("g1 1 1 1;" + item + "2 0 3;" + item + "2 0 30;").day(2, 0, what), 30);
            due("less", with("g1 1 1 1;" + item + "2 0 30;" + item + "2 0 3;").day(2, 0, what), 3);
            due("none", with("g1 1 1 1;" + item + "2 0 30;" + item + "2 0 0;").day(2, 0, what), 0);
            due("it is an item", stands("g1 1 1 1;" + item + "2 0 3;" + item + "2 0 3;", 3).day(2, 0, what), 3);
        }
    }

    @Says(promise = 4, words = "(THE DOOR; once at most)")
    static void doorOnce() {
        due("not told", stands("g1 1 1 1;", 1).count(1), 2);
        due("once", stands("d4 5;", 1).count(1), 4);
        due("once, the last item", stands("g1 1 1 1;d4 5;", 2).count(1), 4);
        PantryDoors x = with("d1 1;");
        types(x, "d4 5;");
        due("once more in the next text", x.house(), 1);
        due("the door", x.count(1) * 10 + x.count(2), 45);
        PantryDoors faulty = types(new PantryDoors(), "d1 1;~");
        faulty.house();
        faulty.clear();
        types(faulty, "d6 7;");
        due("once more behind a text with a fault", faulty.house(), 1);
    }

    @Says(promise = 4, words = "d again")
    static void doorAgain() {
        fault("d1 1;d1 1;", 5);
        fault("d2 3;d2 3;", 5);
        fault("d1 1;g1 1 1 1; d2 2;", 15);
        fault("d1 1;d", 5);
        fault("d1 1;d0 0;", 5);
    }

    @Says(promise = 4, words = "a NUMBER beyond what it may be, too")
    static void numberBeyond() {
        String good = "g60 9 9 9;";
        stands(good + "b19 0 30;m19 0 30;d9 9;", 4);
        fault("g61 9 9 9;", 1);
        fault("g60 10 9 9;", 4);
        fault("g60 9 10 9;", 6);
        fault("g60 9 0 9;", 6);
        fault("g60 9 9 10;", 8);
        for (String item : new String[] {"b", "m"}) {
            fault(good + item + "20 0 30;", 11);
            fault(good + item + "19 1 30;", 14);
            fault(good + item + "19 0 31;", 16);
        }
        fault("d10 9;", 1);
        fault("d0 9;", 1);
        fault("d9 10;", 3);
        fault("d9 0;", 3);
    }

    @Says(promise = 4, words = "THE DOOR: EVERY (1 .. 9; 2 at first)")
    static void every() {
        told("d", " 1;", 1, 1, 9, 10);
        due("least", with("d1 5;").count(1), 1);
        due("most", with("d9 5;").count(1), 9);
        due("at first", new PantryDoors().count(1), 2);
        due("not told", with("g1 1 1 1;").count(1), 2);
    }

    @Says(promise = 4, words = "BACK (1 .. 9; 3 at first)")
    static void back() {
        told("d1 ", ";", 3, 1, 9, 10);
        due("least", with("d5 1;").count(2), 1);
        due("most", with("d5 9;").count(2), 9);
        due("at first", new PantryDoors().count(2), 3);
        due("not told", with("g1 1 1 1;").count(2), 3);
    }

    @Says(promise = 4, words = "(Read anew: as told, nothing SEEN, GAVE or to be UNDONE, IMAGES are gone.)")
    static void readAnew() {
        PantryDoors x = lived();
        due("house", x.house(), 2);
        due("a good", x.count(0), 1);
        due("the door", x.count(1) * 10 + x.count(2), 78);
        for (int w = 3; w <= 6; w++) due("count(" + w + ")", x.count(w), 0);
        for (int w = 0; w <= 4; w++) due("now(" + w + ")", x.now(w), w == 1 ? NONE : 0);
        due("there is", x.good(0, 4), 1);
        due("nobody was hungry", x.good(0, 5), 0);
        for (int d = 0; d < 20; d++) {
            for (int w = 0; w <= 2; w++) due("day " + d, x.day(d, 0, w), 0);
        }
        due("nothing to be undone", x.undo(), STATE);
        due("image 0", x.back(0), STATE);
        due("image 1", x.back(1), STATE);
        due("the days", x.days(), (1 << 21) - 1);
        due("the laws", x.laws(0), 81);
        due("the goods of before", x.good(1, 0), BAD);
        PantryDoors held = on(1, "d1 1;");
        held.holds(1);
        held.house();
        due("a door that was held is not", held.now(2), 0);
    }

    @Says(promise = 4, words = "(Read anew: as told, nothing SEEN, GAVE or to be UNDONE, IMAGES are gone.)")
    static void readAnewAgainAndAgain() {
        PantryDoors x = new PantryDoors();
        for (int times = 0; times < 3; times++) {
            types(x, "d1 1;g60 0 9 9;g60 0 9 9;b0 0 30;m0 0 9;m18 1 9;b19 1 30;");
            due("house", x.house(), 7);
            x.goes();
            due("takes from day 0", x.takes(0, 9), 90);
            pass(x, 18);
            due("takes from day 18", x.takes(1, 9), 60);
            // Again, for nothing may be left of the text ahead of the last either.
            for (int again = 0; again < 2; again++) nothingIsLeft(x);
        }
    }

    private static void nothingIsLeft(PantryDoors x) {
        types(x, "g0 1 1 1;g0 1 1 1;");
        due("house", x.house(), 2);
        due("the door", x.count(1) * 10 + x.count(2), 23);
        due("nothing was taken", x.now(4), 0);
        for (int what = 0; what <= 2; what++) {
            due("of day 0", x.day(0, 0, what), 0);
            due("of day 18", x.day(18, 1, what), 0);
            due("of day 19", x.day(19, 1, what), 0);
        }
        due("stores", x.store(1, 0) + x.store(20, 1), 0);
    }
}
