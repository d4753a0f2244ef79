import java.io.IOException;
import java.lang.annotation.ElementType;
import java.lang.annotation.Retention;
import java.lang.annotation.RetentionPolicy;
import java.lang.annotation.Target;
import java.lang.reflect.InvocationTargetException;
import java.lang.reflect.Method;
import java.nio.file.Files;
import java.nio.file.Path;
import java.util.ArrayList;
import java.util.Arrays;
import java.util.Comparator;
import java.util.List;

/**
 * What the tests of boundary cases share: a test is a method that bears the sentence which it holds the class to.
 * No object is called more than 512 times, so the houses here are short and all that can be seen is seen in parts.
 */
abstract class Bounds {
    static final int BAD = -1, STATE = -2, FULL = -3, NONE = -9, NO = -1000000;
    static final int LOW = Integer.MIN_VALUE, HIGH = Integer.MAX_VALUE;

    private static final int PARTS = 7;
    private static String sentence = "";
    private static int wrong = 0;

    /** The document's words, and the promise that they bind. */
    @Retention(RetentionPolicy.RUNTIME)
    @Target(ElementType.METHOD)
    @interface Says {
        int promise();
        String words();
    }

    interface Maker {
        PantryDoors make();
    }

    interface Call {
        long on(PantryDoors x);
    }

    interface Asks {
        long on(PantryDoors x, int number);
    }

    // ---- running

    static void run(Class<?> tests) {
        String document = document();
        Method[] methods = tests.getDeclaredMethods();
        Arrays.sort(methods, Comparator.comparing(Method::getName));
        int many = 0;
        for (Method m : methods) {
            Says says = m.getAnnotation(Says.class);
            if (says != null) {
                many++;
                sentence = "promise " + says.promise() + ", '" + says.words() + "', " + m.getName();
                if (document != null && !document.contains(plain(says.words()))) fails("the document does not say so");
                call(m);
            }
        }
        System.out.println(wrong == 0 ? many + " sentences hold" : wrong + " answers are not as due");
        if (wrong != 0 || many == 0) System.exit(1);
    }

    private static void call(Method m) {
        try {
            m.setAccessible(true);
            m.invoke(null);
        } catch (InvocationTargetException e) {
            fails("thrown: " + e.getCause());
        } catch (IllegalAccessException e) {
            fails("it can't be run: " + e);
        }
    }

    /** What the tests quote must stand there; null, if it is not at hand: the class can be held to it all the same. */
    private static String document() {
        try {
            return plain(Files.readString(Path.of("../shared/DOC.md")));
        } catch (IOException e) {
            System.out.println("there is no ../shared/DOC.md: whether the sentences stand there is not looked at");
            return null;
        }
    }

    private static String plain(String words) {
        return words.replaceAll("\\s+", " ");
    }

    static void fails(String how) {
        wrong++;
        System.out.println(sentence + ": " + how);
    }

    static void due(String what, long got, long want) {
        if (got != want) fails(what + " answered " + got + ", due is " + want);
    }

    // ---- houses

    static PantryDoors types(PantryDoors x, String text) {
        for (int i = 0; i < text.length(); i++) x.type(text.charAt(i));
        return x;
    }

    static PantryDoors with(String text) {
        PantryDoors x = types(new PantryDoors(), text);
        int answer = x.house();
        if (answer < 0) fails("house of '" + text + "' answered " + answer);
        return x;
    }

    static PantryDoors pass(PantryDoors x, int days) {
        for (int i = 0; i < days; i++) x.goes();
        return x;
    }

    static PantryDoors on(int day, String text) {
        return pass(with(text), day);
    }

    /**
     * Three goods on day 4, on which the door gives on day 1; something of all that can change has changed: both
     * images are kept, 8 may be undone, one was SEEN, one GAVE, the trace is not 0, and a text is typed.
     */
    static PantryDoors lived() {
        PantryDoors x = on(4, "d2 3;g10 4 2 3;g5 2 5 7;g8 1 1 1;m0 0 6;m1 1 3;m1 0 2;m3 2 4;b4 0 9;m5 1 7;b6 1 3;");
        x.keep(0);
        x.takes(1, 2);
        x.buys(2, 7);
        x.keep(1);
        x.holds(1);
        x.holds(0);
        x.saw(0, 0);
        x.gave(4, 1);
        x.mark(5, 1);
        return types(x, "d7 8;g1 2 3 4;");
    }

    /** Day 1 of a house in which there is so much (60 .. 999) of good 0, and 30 can be TAKEN, 30 are BROUGHT. */
    static PantryDoors stocked(int there) {
        PantryDoors x = on(1, "d1 1;g60 0 1 1;g5 1 1 1;m0 0 30;b0 0 30;b1 0 30;m2 0 30;");
        int more = there - 60;
        for (; more > 0; more -= 9) x.buys(0, Math.min(9, more));
        if (x.good(0, 4) != there) fails("there is " + x.good(0, 4) + ", not " + there);
        return x;
    }

    /** The end of a house whose door would give on day 19 by its law's letters, on which 5 were MISSED. */
    static PantryDoors atTheEnd() {
        return on(20, "d1 1;g60 0 1 1;g9 9 9 9;m18 0 4;m19 0 5;");
    }

    // ---- what is refused changes nothing

    static void refused(String what, Maker maker, Call call, long want) {
        due(what, call.on(maker.make()), want);
        unchanged(what, maker, call);
    }

    /** All that can be seen of an object after the call is as of one that was made alike and not called. */
    static void unchanged(String what, Maker maker, Call call) {
        for (int part = 0; part < PARTS; part++) {
            PantryDoors called = maker.make();
            call.on(called);
            List<String> due = seen(maker.make(), part), got = seen(called, part);
            for (int i = 0; i < due.size(); i++) {
                if (!due.get(i).equals(got.get(i))) {
                    fails(what + " changed something: " + got.get(i) + ", due is " + due.get(i));
                    break;
                }
            }
        }
    }

    /** The numbers least .. most are as told and answer so at both ends; those beyond are refused as BAD. */
    static void bounds(String what, Maker maker, Asks asks, int least, long atLeast, int most, long atMost) {
        bounds(what, maker, asks, new int[] {least, most}, new long[] {atLeast, atMost}, BAD);
    }

    static void bounds(String what, Maker maker, Asks asks, int[] ends, long[] atEnds, int refusal) {
        for (int i = 0; i < 2; i++) due(what + " of " + ends[i], asks.on(maker.make(), ends[i]), atEnds[i]);
        for (int n = ends[0]; n <= ends[1]; n++) {
            if (asks.on(maker.make(), n) == refusal) fails(what + " of " + n + " is refused");
        }
        for (int n : new int[] {ends[0] - 1, ends[1] + 1, LOW, HIGH}) {
            refused(what + " of " + n, maker, x -> asks.on(x, n), refusal);
        }
    }

    private static List<String> seen(PantryDoors x, int part) {
        List<String> all = new ArrayList<>();
        switch (part) {
            case 0: lookNow(x, all); lookAhead(x, all); break;
            case 1: lookTaken(x, all); lookStores(x, all); break;
            case 2: lookTold(x, all); break;
            case 3: lookDoor(x, all); lookUndone(x, all); break;
            case 4: case 5: lookImage(x, part - 4, all); break;
            default: lookText(x, all); break;
        }
        return all;
    }

    private static void put(List<String> all, String what, long answer) {
        all.add(what + " = " + answer);
    }

    private static void lookNow(PantryDoors x, List<String> all) {
        for (int w = 0; w <= 6; w++) put(all, "count(" + w + ")", x.count(w));
        for (int w = 0; w <= 5; w++) put(all, "now(" + w + ")", x.now(w));
        for (int g = 0; g < 4; g++) {
            for (int w = 0; w <= 6; w++) put(all, "good(" + g + ", " + w + ")", x.good(g, w));
        }
        put(all, "days()", x.days());
        put(all, "look()", x.look());
        put(all, "laws(0)", x.laws(0));
        put(all, "laws(1)", x.laws(1));
        put(all, "trace()", x.trace());
    }

    private static void lookAhead(PantryDoors x, List<String> all) {
        for (int g = 0; g < 4; g++) put(all, "hungry(" + g + ", 20)", x.hungry(g, 20));
        for (int k = -1; k <= 5; k++) put(all, "fed(6, " + k + ")", x.fed(6, k));
        for (int n = 1; n <= 5; n++) put(all, "fed(" + n + ", -1)", x.fed(n, -1));
        for (int g = -1; g < 4; g++) put(all, "carry(60, " + g + ")", x.carry(60, g));
    }

    private static void lookTaken(PantryDoors x, List<String> all) {
        for (int d = 0; d < 20; d++) {
            for (int g = 0; g < 4; g++) put(all, "day(" + d + ", " + g + ", 2)", x.day(d, g, 2));
        }
    }

    private static void lookStores(PantryDoors x, List<String> all) {
        for (int d = 0; d <= 20; d++) {
            for (int g = 0; g < 4; g++) put(all, "store(" + d + ", " + g + ")", x.store(d, g));
        }
    }

    private static void lookTold(PantryDoors x, List<String> all) {
        for (int d = 0; d < 20; d++) {
            for (int g = 0; g < 4; g++) {
                for (int w = 0; w < 2; w++) put(all, "day(" + d + ", " + g + ", " + w + ")", x.day(d, g, w));
            }
        }
    }

    private static void lookDoor(PantryDoors x, List<String> all) {
        for (int d = 0; d < 20; d++) {
            for (int w = 0; w <= 2; w++) put(all, "gives(" + d + ", " + w + ")", x.gives(d, w));
        }
    }

    private static void lookUndone(PantryDoors x, List<String> all) {
        for (int i = 0; i < 11; i++) {
            put(all, "undo()", x.undo());
            for (int w = 0; w <= 4; w++) put(all, "undone, now(" + w + ")", x.now(w));
            for (int g = 0; g < 4; g++) put(all, "undone, good(" + g + ", 4)", x.good(g, 4));
        }
    }

    private static void lookImage(PantryDoors x, int image, List<String> all) {
        put(all, "back(" + image + ")", x.back(image));
        for (int w = 0; w <= 4; w++) put(all, "of the image, now(" + w + ")", x.now(w));
        for (int g = 0; g < 4; g++) {
            put(all, "of the image, good(" + g + ", 4)", x.good(g, 4));
            put(all, "of the image, good(" + g + ", 5)", x.good(g, 5));
        }
        lookTaken(x, all);
        lookUndone(x, all);
    }

    private static void lookText(PantryDoors x, List<String> all) {
        put(all, "house()", x.house());
        lookNow(x, all);
        lookTold(x, all);
    }
}
