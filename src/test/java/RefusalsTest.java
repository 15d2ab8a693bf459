import java.util.function.Function;

/**
 * "Of several exceptions the one told first is thrown; a call that throws changes nothing but the TAPE, where it is
 * used up." Each refused call is done on one of two equal objects; then both must answer the same to all: what is seen,
 * what is remembered, the image, fault() and the tape.
 */
public final class RefusalsTest {
    private static final String INDEX = "IndexOutOfBoundsException";
    private static final String ARGUMENT = "IllegalArgumentException";
    private static final String STATE = "IllegalStateException";
    private static final String ELEMENT = "NoSuchElementException";
    private static final String FULL = "UnsupportedOperationException";
    /** On the tape of each object, to be found there by calls that do not use it. */
    private static final String LEFT = "near 77";
    private static final int FAULT = 5;

    private static final Desk d = new Desk("RefusalsTest");

    public static void main(String[] args) {
        questions();
        acts();
        handings();
        texts();
        fullCamp();
        tapes();
        theOneToldFirst();
        noBytesCome();
        noEnd();
        noUndo();
        noImage();
        d.end();
    }

    /** Men 0 to 2; man 0 wears shirt 1; a law, an image, acts ahead of it and behind it, a fault, and a text on the tape. */
    private static ShirtWash made() {
        ShirtWash w = Desk.wash("man 0 squad 1 tears 2 wish red;man 1 squad 0 tears 3 wish blue;man 7 squad 2 tears 9 wish white",
                "shirt white torn 5 lice 9 starch 3;shirt red torn 998 lice 4 starch 1;shirt blue torn 1 lice 98 starch 0;wears 1 0");
        return furnished(w);
    }

    private static ShirtWash furnished(ShirtWash w) {
        Desk.law(w, "bar if neighbour or place > 6 and button > 1;cost 5 if wished;cost 1");
        w.days(1);
        w.seed(-77);
        w.image();
        w.give(0, 1);
        w.truce();
        Desk.tape(w, "near x");
        d.due("a wrong text", "throws." + ARGUMENT, w::camp);
        Desk.tape(w, LEFT);
        return w;
    }

    private static ShirtWash madeWithTenTexts() {
        return furnished(Desk.wash("", "", "", "", "", "", "", "", Desk.men(0, 1, 7), Desk.shirts(3, 2, 1)));
    }

    /** All that can be known of an object; it is of no use behind this. */
    private static String known(ShirtWash w) {
        StringBuilder known = new StringBuilder("tape ");
        int size = 400;
        while (!w.end(size)) {
            size--;
        }
        known.append(size).append(" fault ").append(w.fault()).append('\n');
        known.append(Desk.all(w)).append('\n');
        boolean left = size == LEFT.length();
        for (int i = 0; i < 13 && w.undo(); i++) {
            known.append("undone ").append(Desk.all(w)).append('\n');
        }
        known.append("back ").append(w.back()).append(' ').append(Desk.all(w)).append('\n');
        if (left && w.count(2) < 10) {
            known.append("text ").append(w.camp()).append(" near ").append(w.count(6));
        }
        return known.toString();
    }

    private static void refused(String what, String exception, Function<ShirtWash, Object> call) {
        ShirtWash asked = made();
        d.due(what, "throws." + exception, () -> call.apply(asked));
        d.due(what + " leaves all as it was", known(made()), () -> known(asked));
    }

    /** As the call uses the tape up, the other object's tape is cut to nothing. */
    private static void refusedTape(String what, String exception, String tape, Function<ShirtWash, Object> call) {
        ShirtWash asked = made();
        asked.end(0);
        Desk.tape(asked, tape);
        d.due(what, "throws." + exception, () -> call.apply(asked));
        ShirtWash other = made();
        other.end(0);
        d.due(what + " leaves all but the tape", known(other), () -> known(asked));
    }

    private static void questions() {
        refused("man(3, 0)", INDEX, w -> w.man(3, 0));
        refused("man(0, 6)", ELEMENT, w -> w.man(0, 6));
        refused("shirt(3, 0)", INDEX, w -> w.shirt(3, 0));
        refused("shirt(0, 7)", ELEMENT, w -> w.shirt(0, 7));
        refused("barred(3, 0)", INDEX, w -> w.barred(3, 0));
        refused("barred(0, 3)", INDEX, w -> w.barred(0, 3));
        refused("cost(3, 0)", INDEX, w -> w.cost(3, 0));
        refused("cost(0, 3)", INDEX, w -> w.cost(0, 3));
        refused("ledger(0, 3)", INDEX, w -> w.ledger(0, 3));
        refused("tore(1, 1, 3)", ELEMENT, w -> w.tore(1, 1, 3));
        refused("tore(-1, 1, 0)", ARGUMENT, w -> w.tore(-1, 1, 0));
        refused("tore(1, 7, 0)", ARGUMENT, w -> w.tore(1, 7, 0));
        refused("lines(0)", ARGUMENT, w -> w.lines(0));
        refused("lines(100)", ARGUMENT, w -> w.lines(100));
        refused("blue(3, 0, 1)", ARGUMENT, w -> w.blue(3, 0, 1));
        refused("blue(0, 0, 10)", ARGUMENT, w -> w.blue(0, 0, 10));
        refused("trace(3)", ARGUMENT, w -> w.trace(3));
        refused("plan(3, true)", INDEX, w -> w.plan(3, true));
    }

    private static void acts() {
        refused("days(0)", ARGUMENT, w -> w.days(0));
        refused("days(61)", ARGUMENT, w -> w.days(61));
        refused("give(3, 0)", INDEX, w -> w.give(3, 0));
        refused("give(1, 3)", INDEX, w -> w.give(1, 3));
        refused("give: he wears one", STATE, w -> w.give(0, 2));
        refused("give: it is worn", STATE, w -> w.give(2, 1));
        refused("give: it is barred", STATE, w -> w.give(2, 2));
        refused("take(-1)", INDEX, w -> w.take(-1));
        refused("take: he wears none", STATE, w -> w.take(1));
        refused("buttons(0, 3)", INDEX, w -> Desk.buttons(w, 0, 3));
        refused("buttons(1, 1)", ARGUMENT, w -> Desk.buttons(w, 1, 1));
        ShirtWash w = made();
        d.due("the neighbour's", true, () -> w.barred(0, 0));
        d.due("who is no neighbour can be given it", 6, () -> w.give(2, 0));
    }

    private static void handings() {
        for (boolean cheapest : new boolean[] {false, true}) {
            ShirtWash asked = made();
            asked.end(0);
            Desk.law(asked, "bar if place > 6");
            asked.give(1, 0);
            String before = Desk.all(asked);
            d.due("hand(" + cheapest + ")", "throws." + STATE, () -> asked.hand(cheapest));
            d.due("hand(" + cheapest + ") leaves all as it was", before, () -> Desk.all(asked));
            d.due("its acts, too", 1, () -> asked.count(13));
            d.due("what was ahead of it is undone", true, asked::undo);
            d.due("he wears none again", -1, () -> asked.man(1, 4));
        }
    }

    private static void wrongText(String text, int fault, Function<ShirtWash, Object> read) {
        ShirtWash asked = made();
        asked.end(0);
        Desk.tape(asked, text);
        d.due("reading '" + text + "'", "throws." + ARGUMENT, () -> read.apply(asked));
        d.due("fault of '" + text + "'", fault, asked::fault);
        ShirtWash other = made();
        other.end(0);
        d.due("'" + text + "' leaves all but the tape and fault()", butFault(known(other)), () -> butFault(known(asked)));
    }

    private static String butFault(String known) {
        return known.replaceFirst("fault -?\\d+", "fault");
    }

    private static void texts() {
        wrongText("near 5;rainy 7;runs 8;near 100", 27, ShirtWash::camp);
        wrongText("man 5 squad 0 tears 0 wish red;shirt red torn 0 lice 0 starch 0;wears 3 3;wears 3 3", 80, ShirtWash::camp);
        wrongText("wears 1 0;wears 2 2;", 20, ShirtWash::camp);
        wrongText("x", 0, ShirtWash::camp);
        wrongText("bar;cost 3;", 11, ShirtWash::law);
        wrongText("bar if (((((((same)))))))", 13, ShirtWash::law);
        wrongText("x", 0, ShirtWash::law);
    }

    private static void fullCamp() {
        ShirtWash asked = madeWithTenTexts();
        d.due("an 11th text", "throws." + FULL, asked::camp);
        d.due("it was read", -1, asked::fault);
        ShirtWash other = madeWithTenTexts();
        other.end(0);
        d.due("it leaves all but the tape", butFault(known(other)), () -> butFault(known(asked)));
        ShirtWash wrong = madeWithTenTexts();
        wrong.end(0);
        Desk.tape(wrong, "near 1;x");
        d.due("a wrong 11th text", "throws." + ARGUMENT, wrong::camp);
        d.due("its fault", 7, wrong::fault);
        ShirtWash same = madeWithTenTexts();
        same.end(0);
        d.due("a wrong 11th leaves all but the tape", butFault(known(same)), () -> butFault(known(wrong)));
    }

    private static void tapes() {
        refusedTape("hang: none", ARGUMENT, "ad", ShirtWash::hang);
        refusedTape("hang: twice", ARGUMENT, "aca", ShirtWash::hang);
        refusedTape("hang: worn", STATE, "acb", ShirtWash::hang);
        refusedTape("home: nobody", INDEX, "012", w -> w.home(0, 3));
        refusedTape("home: few", ARGUMENT, "01", w -> w.home(0, 1));
        refusedTape("home: many", ARGUMENT, "0120", w -> w.home(0, 1));
        refusedTape("home: no man", ARGUMENT, "013", w -> w.home(0, 1));
        refusedTape("spies: odd", ARGUMENT, "\0", ShirtWash::spies);
        refusedTape("spies: more washes", ARGUMENT, "\0\0\0\0", ShirtWash::spies);
        refusedTape("spies: no shirt", ARGUMENT, "\0\u0008", ShirtWash::spies);
    }

    private static void theOneToldFirst() {
        refused("man: both", INDEX, w -> w.man(-1, -1));
        refused("shirt: both", INDEX, w -> w.shirt(3, 7));
        refused("give: no man, and worn", INDEX, w -> w.give(-1, 1));
        refused("give: no shirt, and he wears one", INDEX, w -> w.give(0, 3));
        refused("buttons: both are one that there is not", INDEX, w -> Desk.buttons(w, 3, 3));
        refused("tore: all", ELEMENT, w -> w.tore(-1, 0, 3));
        refusedTape("hang: worn, and twice", ARGUMENT, "bb", ShirtWash::hang);
        refusedTape("hang: worn, and none", ARGUMENT, "bz", ShirtWash::hang);
        refusedTape("home: nobody, and the tape is not that", INDEX, "~", w -> w.home(3, 3));
        refusedTape("home: to nobody, and an empty tape", INDEX, "", w -> w.home(0, -1));
    }

    /** Calls that answer false or NONE where they cannot do what is asked. */
    private static void noBytesCome() {
        ShirtWash w = made();
        for (int bytes = 27; bytes <= 387; bytes += 20) {
            int size = bytes;
            d.due("feed to " + bytes, size, () -> w.feed(2, 2, 2, 2, 2));
        }
        d.due("feed beyond 400", -1, () -> w.feed(3, 3, 3, 3, 3));
        d.due("none came", false, () -> w.end(388));
        d.due("the bytes that there were", true, () -> w.end(387));
        w.end(7);
        d.due("the first of them stay", known(made()), () -> known(w));
    }

    private static void noEnd() {
        ShirtWash w = made();
        d.due("end(-1)", false, () -> w.end(-1));
        d.due("end(8) of 7", false, () -> w.end(8));
        d.due("end: nothing happens", known(made()), () -> known(w));
    }

    private static void noUndo() {
        ShirtWash w = made();
        for (int act = 3; act > 0; act--) {
            d.due("undo " + act, true, w::undo);
        }
        String before = Desk.all(w);
        d.due("nothing to undo", false, w::undo);
        d.due("undo: nothing happens", before, () -> Desk.all(w));
        d.due("fault() stays", FAULT, w::fault);
        d.due("the tape stays", true, () -> w.end(LEFT.length()));
        d.due("the image stays", true, w::back);
    }

    private static void noImage() {
        ShirtWash w = Desk.wash(Desk.men(0), Desk.shirts(0));
        w.lot();
        Desk.tape(w, LEFT);
        String before = Desk.all(w);
        d.due("no image", false, w::back);
        d.due("back: nothing happens", before, () -> Desk.all(w));
        d.due("the tape stays", true, () -> w.end(LEFT.length()));
        d.due("the act stays", true, w::undo);
    }
}
