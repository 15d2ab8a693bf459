/** For each promise of the document: ordinary inputs, the edges that it names, and wrong inputs. */
public final class PromisesTest {
    private static final String THREE_MEN =
            "man 0 squad 0 tears 2 wish white;man 1 squad 3 tears 3 wish blue;man 5 squad 1 tears 0 wish red";
    private static final String FOUR_SHIRTS =
            "shirt white torn 0 lice 9 starch 4;shirt blue torn 5 lice 0 starch 2;shirt red torn 1 lice 3 starch 0;shirt white torn 0 lice 7 starch 9";
    private static final String INDEX = "IndexOutOfBoundsException";
    private static final String ARGUMENT = "IllegalArgumentException";
    private static final String STATE = "IllegalStateException";
    private static final String ELEMENT = "NoSuchElementException";

    private static final Desk d = new Desk("PromisesTest");

    public static void main(String[] args) {
        newObject();
        feed();
        end();
        camp();
        campFaults();
        law();
        lawFaults();
        fault();
        man();
        shirt();
        barred();
        cost();
        ledger();
        days();
        give();
        take();
        hang();
        truce();
        buttons();
        ways();
        plan();
        least();
        lack();
        hand();
        lot();
        home();
        tore();
        spies();
        lines();
        blue();
        trace();
        seed();
        undo();
        undoneByEachAct();
        image();
        back();
        count();
        d.end();
    }

    private static ShirtWash three() {
        return Desk.wash(THREE_MEN, FOUR_SHIRTS);
    }

    // ---- 1

    private static void newObject() {
        ShirtWash w = new ShirtWash();
        int[] counts = {0, 0, 0, -1, 0, 0, 1, 0, 50, 0, 0, 0, 0, 0};
        for (int i = 0; i < counts.length; i++) {
            int what = i;
            d.due("new: count(" + what + ")", counts[i], () -> w.count(what));
        }
        d.due("new: fault", -1, w::fault);
        d.due("new: seed", 1, () -> w.seed(1));
        d.due("new: undo", false, w::undo);
        d.due("new: back", false, w::back);
        d.due("new: end(0)", true, () -> w.end(0));
        d.due("new: end(1)", false, () -> w.end(1));
        d.due("new: ways", 1, w::ways);
        d.due("new: least", 0, w::least);
        d.due("new: lack", 0, w::lack);
        d.due("new: lines", 0, () -> w.lines(1));
        d.due("new: man", "throws." + INDEX, () -> w.man(0, 0));
        d.due("new: shirt", "throws." + INDEX, () -> w.shirt(0, 0));
        d.due("NONE", -1, () -> ShirtWash.NONE);
    }

    // ---- 2, 3

    private static void feed() {
        ShirtWash w = new ShirtWash();
        for (int i = 1; i <= 20; i++) {
            d.due("feed " + i, 20 * i, () -> w.feed(0, 0, 0, 0, 0));
        }
        d.due("feed beyond 400", -1, () -> w.feed(0, 0, 0, 0, 0));
        d.due("none came", false, () -> w.end(401));
        d.due("end(381)", true, () -> w.end(381));
        d.due("feed that would have 401", -1, () -> w.feed(0, 0, 0, 0, 0));
        d.due("end(380)", true, () -> w.end(380));
        d.due("feed to 400", 400, () -> w.feed(0, 0, 0, 0, 0));

        ShirtWash x = Desk.wash(Desk.shirts(0, 0, 0, 0));
        x.end(0);
        x.feed(0x61626364, 0, 0, 0, 0);
        x.end(4);
        d.due("the highest byte first", 0, x::hang);
        ShirtWash y = Desk.wash("near 1");
        y.feed(0x6e656172, 0x20370000, 0, 0, 0);
        y.end(6);
        y.camp();
        d.due("two numbers make one text", 7, () -> y.count(6));
        y.feed(0xff000000, 0, 0, 0, 0);
        y.end(1);
        d.dueThrow("a byte 255 is no shirt", ARGUMENT, y, y::hang);
        d.due("and it is used up", false, () -> y.end(1));
    }

    private static void end() {
        ShirtWash w = new ShirtWash();
        w.feed(1, 2, 3, 4, 5);
        d.due("end(-1)", false, () -> w.end(-1));
        d.due("end(21)", false, () -> w.end(21));
        d.due("nothing happened", 40, () -> w.feed(1, 2, 3, 4, 5));
        d.due("end(40)", true, () -> w.end(40));
        d.due("end(7)", true, () -> w.end(7));
        d.due("end(8)", false, () -> w.end(8));
        d.due("27 bytes", 27, () -> w.feed(1, 2, 3, 4, 5));
        d.due("end(max)", false, () -> w.end(Integer.MAX_VALUE));
        d.due("end(min)", false, () -> w.end(Integer.MIN_VALUE));
        d.due("end(0)", true, () -> w.end(0));
        d.due("20 bytes", 20, () -> w.feed(1, 2, 3, 4, 5));
    }

    // ---- 4

    private static void camp() {
        ShirtWash w = new ShirtWash();
        d.due("camp 1", 1, () -> Desk.camp(w, THREE_MEN));
        d.due("the tape is used up", false, () -> w.end(1));
        d.due("camp 2", 2, () -> Desk.camp(w, FOUR_SHIRTS + ";wears 002 01"));
        d.due("men", 3, () -> w.count(0));
        d.due("shirts", 4, () -> w.count(1));
        d.due("man 2 wears 1", 1, () -> w.man(2, 4));
        d.due("lice are as told, not halved", 0, () -> w.shirt(1, 2));
        d.due("near, rainy, runs", 3, () -> Desk.camp(w, " near 99 ; rainy 100 ; runs 000 "));
        d.due("near", 99, () -> w.count(6));
        d.due("rainy", 100, () -> w.count(7));
        d.due("runs", 0, () -> w.count(8));
        d.due("no blanks where words and numbers part", 4,
                () -> Desk.camp(w, "man5squad1tears2wish red;near0;wears0 3"));
        d.due("he is there", 5, () -> w.man(3, 0));
        d.due("blanks alone", 5, () -> Desk.camp(w, "   "));
        d.due("an empty text", 6, () -> Desk.camp(w, ""));
        d.due("14 lines", 7, () -> Desk.camp(w, "near 1" + ";near 1".repeat(13)));
        Desk.camp(w, "");
        Desk.camp(w, "");
        d.due("the tenth", 10, () -> Desk.camp(w, "near 8"));
        d.dueThrowOf("near 9", "an eleventh text", "UnsupportedOperationException", w, w::camp);
        d.due("it was read and is right", -1, w::fault);
        d.dueThrowOf("near x", "an eleventh wrong text", ARGUMENT, w, w::camp);
        d.due("its fault", 5, w::fault);
        d.dueThrowOf("", "an eleventh empty text", "UnsupportedOperationException", w, w::camp);

        ShirtWash x = Desk.wash(Desk.men(1, 2, 3, 4, 5, 6, 7, 8, 9, 10), Desk.shirts(0, 1, 2, 3, 4, 5, 6, 7, 8, 9), Desk.shirts(0, 0));
        d.due("10 men", 10, () -> x.count(0));
        d.due("12 shirts", 12, () -> x.count(1));
        ShirtWash y = Desk.wash(Desk.men(0, 1), Desk.shirts(0, 0));
        y.lot();
        d.due("an act", 1, () -> y.count(13));
        d.dueThrowOf("near", "a wrong text", ARGUMENT, y, y::camp);
        d.due("keeps what is remembered", 1, () -> y.count(13));
        Desk.camp(y, "");
        d.due("a right one forgets it", 0, () -> y.count(13));
        d.due("so no undo", false, y::undo);
    }

    private static void wrongCamp(ShirtWash w, int fault, String text) {
        d.dueThrowOf(text, "camp", ARGUMENT, w, w::camp);
        d.due("fault of '" + text + "'", fault, w::fault);
    }

    private static void campFaults() {
        ShirtWash w = Desk.wash(THREE_MEN, FOUR_SHIRTS, "wears 0 0");
        wrongCamp(w, 0, "Man 1");
        wrongCamp(w, 0, "5");
        wrongCamp(w, 2, "  ;near 1");
        wrongCamp(w, 3, "man");
        wrongCamp(w, 6, "man   ");
        wrongCamp(w, 4, "man x");
        wrongCamp(w, 4, "man 100 squad 1 tears 1 wish red");
        wrongCamp(w, 4, "man 0001 squad 1 tears 1 wish red");
        wrongCamp(w, 0, "mans 1 squad 1 tears 1 wish red");
        wrongCamp(w, 4, "man -1");
        wrongCamp(w, 6, "man 1 tears 1");
        wrongCamp(w, 12, "man 1 squad 10 tears 1 wish red");
        wrongCamp(w, 20, "man 1 squad 1 tears 10 wish red");
        wrongCamp(w, 27, "man 1 squad 1 tears 1 wish green");
        wrongCamp(w, 27, "man 1 squad 1 tears 1 wish bar");
        wrongCamp(w, 27, "man 1 squad 1 tears 1 wish wears");
        wrongCamp(w, 22, "man 1 squad 1 tears 1 wishred");
        wrongCamp(w, 27, "man 1 squad 1 tears 1 wish redd");
        wrongCamp(w, 31, "man 1 squad 1 tears 1 wish red 5");
        wrongCamp(w, 6, "shirt 1");
        wrongCamp(w, 15, "shirt red torn 1000 lice 1 starch 1");
        wrongCamp(w, 22, "shirt red torn 1 lice 100 starch 1");
        wrongCamp(w, 31, "shirt red torn 1 lice 1 starch 10");
        wrongCamp(w, 5, "near 100");
        wrongCamp(w, 6, "rainy 101");
        wrongCamp(w, 5, "runs 101");
        wrongCamp(w, 7, "near 1;");
        wrongCamp(w, 9, "near 1;  ");
        wrongCamp(w, 7, "near 1;;near 1");
        wrongCamp(w, 6, "near 1near 2");
        wrongCamp(w, 6, "near 1\t;near 2");
        wrongCamp(w, 7, "near 1 \u00e9");
        wrongCamp(w, 6, "wears 3 1");
        wrongCamp(w, 6, "wears 0 1");
        wrongCamp(w, 8, "wears 1 4");
        wrongCamp(w, 8, "wears 1 0");
        wrongCamp(w, 7, "wears 1");
        wrongCamp(w, 8, "wears 1 near");
        wrongCamp(w, 6, "wears same");
        wrongCamp(w, 16, "wears 1 1;wears 1 2");
        wrongCamp(w, 18, "wears 1 1;wears 2 1");
        wrongCamp(w, 98, "near 1" + ";near 1".repeat(14));
        wrongCamp(w, 98, "near 1" + ";near 1".repeat(13) + ";");
        wrongCamp(w, 98, "near 1" + ";near 1".repeat(13) + ";7");

        ShirtWash x = Desk.wash(Desk.men(1, 2, 3, 4, 5, 6, 7, 8, 9), "man 1 squad 1 tears 1 wish red", Desk.shirts(0, 0, 0, 0, 0, 0, 0, 0, 0, 0), Desk.shirts(0, 0));
        wrongCamp(x, 8, "near 1; man 100");
        wrongCamp(x, 7, "near 1;shirt none");
        d.due("a right text", 5, () -> Desk.camp(x, "wears 9 11"));
        d.due("has no fault", -1, x::fault);
    }

    // ---- 5

    private static void law() {
        ShirtWash w = three();
        d.due("no law", -1, () -> w.count(3));
        d.due("law", 3, () -> Desk.law(w, "bar if same or neighbour;cost 5 if not wished;cost 2 if torn > 4"));
        d.due("lines", 3, () -> w.count(3));
        d.due("the tape is used up", false, () -> w.end(1));
        d.due("in place of the one before", 1, () -> Desk.law(w, " bar "));
        d.due("all is barred", true, () -> w.barred(2, 2));
        d.dueThrowOf("bar if", "a wrong law", ARGUMENT, w, w::law);
        d.due("the one before stays", true, () -> w.barred(2, 2));
        d.due("12 lines", 12, () -> Desk.law(w, "bar" + ";cost 999".repeat(11)));
        d.due("their cost", 11 * 999, () -> w.cost(0, 0));
        w.truce();
        d.due("an act", 1, () -> w.count(13));
        d.due("an empty law", 0, () -> Desk.law(w, "  "));
        d.due("forgets it", 0, () -> w.count(13));
        d.due("0 lines", 0, () -> w.count(3));
        d.due("bars nothing", false, () -> w.barred(2, 2));
        d.due("costs nothing", 0, () -> w.cost(2, 2));
        d.due("6 deep", 1, () -> Desk.law(w, "bar if not(not(not(same)))and not not not not not not same"));
        d.due("long", 1, () -> Desk.law(w, "bar if 1<2" + "or 1<2".repeat(65)));
    }

    private static void wrongLaw(ShirtWash w, int fault, String text) {
        d.dueThrowOf(text, "law", ARGUMENT, w, w::law);
        d.due("fault of '" + text + "'", fault, w::fault);
    }

    private static void lawFaults() {
        ShirtWash w = three();
        Desk.law(w, "bar if same;cost 3");
        wrongLaw(w, 0, "near 1");
        wrongLaw(w, 0, "if same");
        wrongLaw(w, 4, "cost");
        wrongLaw(w, 5, "cost if same");
        wrongLaw(w, 5, "cost 1000");
        wrongLaw(w, 7, "cost 5 same");
        wrongLaw(w, 4, "bar 5");
        wrongLaw(w, 6, "bar if");
        wrongLaw(w, 0, "barif same");
        wrongLaw(w, 7, "bar if or");
        wrongLaw(w, 7, "bar if white");
        wrongLaw(w, 7, "bar if )");
        wrongLaw(w, 8, "bar if ()");
        wrongLaw(w, 11, "bar if torn");
        wrongLaw(w, 12, "bar if torn same");
        wrongLaw(w, 12, "bar if torn = 5");
        wrongLaw(w, 13, "bar if torn <");
        wrongLaw(w, 13, "bar if torn +");
        wrongLaw(w, 14, "bar if torn < same");
        wrongLaw(w, 16, "bar if torn < 5 < 6");
        wrongLaw(w, 14, "bar if torn < 1000");
        wrongLaw(w, 12, "bar if (same");
        wrongLaw(w, 12, "bar if (same;bar");
        wrongLaw(w, 11, "bar if same)");
        wrongLaw(w, 12, "bar if same not same");
        wrongLaw(w, 15, "bar if same and");
        wrongLaw(w, 15, "bar if same and;bar");
        wrongLaw(w, 15, "bar if same or ");
        wrongLaw(w, 10, "bar if not");
        wrongLaw(w, 7, "bar if Same");
        wrongLaw(w, 4, "bar;");
        wrongLaw(w, 31, "bar if not not not not not not not same");
        wrongLaw(w, 13, "bar if ((((((not same))))))");
        wrongLaw(w, 13, "bar if (((((((same)))))))");
        wrongLaw(w, 22, "bar if not (not (not (not same)))");
        wrongLaw(w, 48, "bar" + ";bar".repeat(12));
        wrongLaw(w, 48, "bar" + ";bar".repeat(11) + ";");
        d.due("the law stays", 2, () -> w.count(3));
    }

    // ---- 6

    private static void fault() {
        ShirtWash w = three();
        d.due("none", -1, w::fault);
        d.dueThrowOf("near 1;near", "camp", ARGUMENT, w, w::camp);
        d.due("of a camp", 11, w::fault);
        w.image();
        w.truce();
        w.undo();
        d.due("undo leaves it", 11, w::fault);
        d.dueThrowOf("~", "law", ARGUMENT, w, w::law);
        w.back();
        d.due("going back leaves it", 0, w::fault);
        d.dueThrowOf("~~", "hang", ARGUMENT, w, w::hang);
        d.due("the tape of hang is no text", 0, w::fault);
        Desk.law(w, "bar");
        d.due("a right text has none", -1, w::fault);
    }

    // ---- 7, 8

    private static void man() {
        ShirtWash w = Desk.wash(THREE_MEN, FOUR_SHIRTS, "wears 1 3");
        int[][] due = {{0, 0, 2, 0, -1, 2}, {1, 3, 3, 1, 3, 1}, {5, 1, 0, 2, -1, 0}};
        for (int m = 0; m < due.length; m++) {
            for (int i = 0; i < due[m].length; i++) {
                int man = m;
                int what = i;
                d.due("man(" + m + ", " + i + ")", due[m][i], () -> w.man(man, what));
            }
        }
        d.dueThrow("man(0, 6)", ELEMENT, w, () -> w.man(0, 6));
        d.dueThrow("man(0, -1)", ELEMENT, w, () -> w.man(0, -1));
        d.dueThrow("man(3, 0)", INDEX, w, () -> w.man(3, 0));
        d.dueThrow("man(-1, 9)", INDEX, w, () -> w.man(-1, 9));
        d.dueThrow("man(max, 0)", INDEX, w, () -> w.man(Integer.MAX_VALUE, 0));
        Desk.camp(w, "near 4");
        d.due("4 near", 5, () -> w.man(1, 5));
        d.due("5 apart", 2, () -> w.man(0, 5));
        Desk.camp(w, "near 5");
        d.due("5 near", 6, () -> w.man(0, 5));
        Desk.camp(w, "near 0;man 5 squad 0 tears 0 wish red");
        d.due("two at one place are neighbours", 8, () -> w.man(2, 5));
        d.due("one is none of his own", 4, () -> w.man(3, 5));
    }

    private static void shirt() {
        ShirtWash w = Desk.wash(THREE_MEN, FOUR_SHIRTS, "wears 1 3");
        int[][] due = {{0, 0, 9, 4, 0, -1, -1}, {1, 5, 0, 2, 1, -1, -1}, {2, 1, 3, 0, 2, -1, -1}, {0, 0, 7, 9, 3, 1, -1}};
        for (int h = 0; h < due.length; h++) {
            for (int i = 0; i < due[h].length; i++) {
                int shirt = h;
                int what = i;
                d.due("shirt(" + h + ", " + i + ")", due[h][i], () -> w.shirt(shirt, what));
            }
        }
        w.days(1);
        d.due("last", 1, () -> w.shirt(3, 6));
        d.due("worn by none now", -1, () -> w.shirt(3, 5));
        d.dueThrow("shirt(0, 7)", ELEMENT, w, () -> w.shirt(0, 7));
        d.dueThrow("shirt(0, -1)", ELEMENT, w, () -> w.shirt(0, -1));
        d.dueThrow("shirt(4, 7)", INDEX, w, () -> w.shirt(4, 7));
        d.dueThrow("shirt(-1, 0)", INDEX, w, () -> w.shirt(-1, 0));
        d.dueThrow("shirt(min, 0)", INDEX, w, () -> w.shirt(Integer.MIN_VALUE, 0));
        Desk.camp(w, "shirt blue torn 999 lice 99 starch 9");
        d.due("a new one has its number", 4, () -> w.shirt(4, 4));
        d.due("and no last", -1, () -> w.shirt(4, 6));
    }

    // ---- 9, 10

    private static void bars(ShirtWash w, String condition, boolean want, int man, int shirt) {
        Desk.law(w, "bar if " + condition + ";cost 7 if " + condition);
        d.due("bar if " + condition + " of " + man + ", " + shirt, want, () -> w.barred(man, shirt));
        d.due("cost 7 if " + condition + " of " + man + ", " + shirt, want ? 7 : 0, () -> w.cost(man, shirt));
    }

    private static void barred() {
        ShirtWash w = Desk.wash(THREE_MEN, FOUR_SHIRTS, "wears 1 3;wears 2 1");
        d.due("no law, no last", false, () -> w.barred(0, 3));
        w.days(1);
        d.due("no law: neighbour", true, () -> w.barred(0, 3));
        d.due("no law: the same is none", false, () -> w.barred(1, 3));
        d.due("no law: too far", false, () -> w.barred(2, 3));
        bars(w, "same", true, 1, 3);
        bars(w, "same", false, 1, 0);
        bars(w, "same", false, 0, 3);
        bars(w, "neighbour", true, 0, 3);
        bars(w, "neighbour", false, 1, 3);
        bars(w, "neighbour", false, 0, 0);
        bars(w, "wished", true, 2, 2);
        bars(w, "wished", false, 2, 1);
        bars(w, "squad > 2", true, 1, 0);
        bars(w, "squad > 3", false, 1, 0);
        bars(w, "place < 6", true, 2, 0);
        bars(w, "place < 5", false, 2, 0);
        bars(w, "tears > 2", true, 1, 0);
        bars(w, "tears > 2", false, 0, 0);
        bars(w, "colour > 1", true, 0, 2);
        bars(w, "colour > 1", false, 0, 1);
        bars(w, "torn > 4", true, 0, 1);
        bars(w, "torn > 5", false, 0, 1);
        bars(w, "lice < 3", false, 0, 1);
        bars(w, "lice < 4", true, 0, 1);
        bars(w, "starch > 7", true, 0, 3);
        bars(w, "starch > 8", false, 0, 3);
        bars(w, "button < 2", true, 0, 1);
        bars(w, "button < 2", false, 0, 2);
        bars(w, "washes > 0", true, 0, 0);
        bars(w, "washes > 1", false, 0, 0);
        bars(w, "1 + 2 + 3 > 5", true, 0, 0);
        bars(w, "1 + 2 + 3 < 3 + 3", false, 0, 0);
        bars(w, "999 > 998 + 1", false, 0, 0);
        bars(w, "torn + place < 2 + squad", false, 1, 1);
        bars(w, "not same", true, 0, 0);
        bars(w, "not not same", false, 0, 0);
        bars(w, "1 < 2 or 1 < 2 and 2 < 1", true, 0, 0);
        bars(w, "(1 < 2 or 1 < 2) and 2 < 1", false, 0, 0);
        bars(w, "2 < 1 and 1 < 2 or 1 < 2", true, 0, 0);
        bars(w, "not 1 < 2 and 2 < 1", false, 0, 0);
        bars(w, "not (1 < 2 and 2 < 1)", true, 0, 0);
        bars(w, "not 2 < 1 or 1 < 2", true, 0, 0);
        Desk.law(w, "cost 1");
        d.due("no bar line bars none", false, () -> w.barred(0, 3));
        Desk.law(w, "bar if 2 < 1;cost 3;bar if same");
        d.due("some bar line", true, () -> w.barred(1, 3));
        d.due("no bar line", false, () -> w.barred(0, 3));
        d.dueThrow("barred(3, 0)", INDEX, w, () -> w.barred(3, 0));
        d.dueThrow("barred(0, 4)", INDEX, w, () -> w.barred(0, 4));
        d.dueThrow("barred(-1, 0)", INDEX, w, () -> w.barred(-1, 0));
        d.dueThrow("barred(0, -1)", INDEX, w, () -> w.barred(0, -1));
    }

    private static void cost() {
        ShirtWash w = three();
        d.due("no law", 0, () -> w.cost(0, 0));
        Desk.law(w, "cost 5;cost 20 if wished;bar;cost 300 if colour > 0;cost 0 if 1 < 2");
        d.due("5 and 20", 25, () -> w.cost(0, 0));
        d.due("5 and 300", 305, () -> w.cost(0, 1));
        d.due("all", 325, () -> w.cost(1, 1));
        d.dueThrow("cost(3, 0)", INDEX, w, () -> w.cost(3, 0));
        d.dueThrow("cost(0, 4)", INDEX, w, () -> w.cost(0, 4));
        d.dueThrow("cost(-1, -1)", INDEX, w, () -> w.cost(-1, -1));
    }

    // ---- 11, 12

    private static void ledger() {
        ShirtWash w = Desk.wash(Desk.men(0, 50), Desk.shirts(0, 0), "wears 0 0;wears 1 1");
        w.days(1);
        w.give(0, 1);
        w.days(1);
        d.due("latest, 0", -1, () -> w.ledger(0, 0));
        d.due("latest, 1", 0, () -> w.ledger(0, 1));
        d.due("one ago, 0", 0, () -> w.ledger(1, 0));
        d.due("one ago, 1", 1, () -> w.ledger(1, 1));
        d.due("two ago", -1, () -> w.ledger(2, 0));
        d.due("-1 ago", -1, () -> w.ledger(-1, 0));
        d.due("max ago", -1, () -> w.ledger(Integer.MAX_VALUE, 0));
        d.due("min ago", -1, () -> w.ledger(Integer.MIN_VALUE, 0));
        d.dueThrow("ledger(0, 2)", INDEX, w, () -> w.ledger(0, 2));
        d.dueThrow("ledger(-1, -1)", INDEX, w, () -> w.ledger(-1, -1));
        w.days(28);
        d.due("29 ago", 0, () -> w.ledger(29, 0));
        d.due("30 ago", -1, () -> w.ledger(30, 0));
        w.days(1);
        d.due("it went", 0, () -> w.ledger(29, 1));
        w.days(1);
        d.due("all went", -1, () -> w.ledger(29, 1));
        Desk.camp(w, Desk.shirts(0));
        d.due("a shirt that was not yet", -1, () -> w.ledger(0, 2));
    }

    private static void days() {
        ShirtWash w = Desk.wash("man 0 squad 0 tears 9 wish red;man 1 squad 0 tears 2 wish red",
                "shirt red torn 995 lice 97 starch 0;shirt blue torn 995 lice 95 starch 9;shirt blue torn 1 lice 2 starch 3;wears 0 0;wears 1 1");
        d.dueThrow("days(0)", ARGUMENT, w, () -> w.days(0));
        d.dueThrow("days(61)", ARGUMENT, w, () -> w.days(61));
        d.dueThrow("days(-1)", ARGUMENT, w, () -> w.days(-1));
        d.due("days(1)", 1, () -> w.days(1));
        int[][] due = {{2, 999, 99, 0, 0, -1, 0}, {1, 997, 98, 8, 1, -1, 1}, {1, 1, 2, 3, 2, -1, -1}};
        for (int h = 0; h < due.length; h++) {
            for (int i = 0; i < due[h].length; i++) {
                int shirt = h;
                int what = i;
                d.due("washed shirt(" + h + ", " + i + ")", due[h][i], () -> w.shirt(shirt, what));
            }
        }
        d.due("he wears none", -1, () -> w.man(0, 4));
        d.due("a draw", Desk.draws(1, 1)[0], () -> (w.seed(1) >>> 16) & 0x7fff);
        d.due("60 days", 60, () -> w.days(60));
        d.due("day", 61, () -> w.count(4));
        d.due("washes", 61, () -> w.count(5));
        d.due("last is told anew", -1, () -> w.shirt(0, 6));
        d.due("none is torn in the chest", 999 + 997 + 1, () -> w.count(11));

        ShirtWash x = Desk.wash(Desk.men(0), Desk.shirts(5), "rainy 100;wears 0 0");
        d.due("it rains", 0, () -> x.days(7));
        d.due("nothing else", 0, () -> x.man(0, 4));
        d.due("starch stays", 5, () -> x.shirt(0, 3));
        d.due("but days", 7, () -> x.count(4));
        d.due("no washes", 0, () -> x.count(5));
        for (int rainy : new int[] {1, 30, 50, 99}) {
            ShirtWash y = Desk.wash("rainy " + rainy);
            y.seed(77);
            int dry = 0;
            for (int draw : Desk.draws(77, 60)) {
                dry += draw % 100 < rainy ? 0 : 1;
            }
            d.due("rainy " + rainy, dry, () -> y.days(60));
            d.due("washes of rainy " + rainy, dry, () -> y.count(5));
        }
    }

    // ---- 13, 14

    private static void give() {
        ShirtWash w = three();
        d.due("9 halved", 4, () -> w.give(0, 0));
        d.due("he wears it", 0, () -> w.man(0, 4));
        d.due("it is worn", 0, () -> w.shirt(0, 5));
        d.dueThrow("he wears one", STATE, w, () -> w.give(0, 1));
        d.dueThrow("it is worn", STATE, w, () -> w.give(1, 0));
        d.dueThrow("no such man", INDEX, w, () -> w.give(3, 0));
        d.dueThrow("no such shirt", INDEX, w, () -> w.give(0, 4));
        d.dueThrow("neither", INDEX, w, () -> w.give(-1, -1));
        d.due("0 halved", 0, () -> w.give(1, 1));
        Desk.law(w, "bar if colour > 1");
        d.dueThrow("barred", STATE, w, () -> w.give(2, 2));
        d.due("7 halved", 3, () -> w.give(2, 3));
        d.due("1 act since the text", 1, () -> w.count(13));
    }

    private static void take() {
        ShirtWash w = Desk.wash(THREE_MEN, FOUR_SHIRTS, "wears 2 3");
        d.dueThrow("he wears none", STATE, w, () -> w.take(0));
        d.dueThrow("no such man", INDEX, w, () -> w.take(3));
        d.dueThrow("no man -1", INDEX, w, () -> w.take(-1));
        d.due("taken", 3, () -> w.take(2));
        d.due("he wears none", -1, () -> w.man(2, 4));
        d.due("in the chest", -1, () -> w.shirt(3, 5));
        d.due("lice as before", 7, () -> w.shirt(3, 2));
        d.due("no wash", -1, () -> w.shirt(3, 6));
        d.dueThrow("not twice", STATE, w, () -> w.take(2));
    }

    // ---- 15

    private static void hang() {
        ShirtWash w = Desk.wash(THREE_MEN, FOUR_SHIRTS, "runs 100;wears 0 2");
        d.dueThrowOf("e", "no such shirt", ARGUMENT, w, w::hang);
        d.dueThrowOf("`", "no such shirt", ARGUMENT, w, w::hang);
        d.dueThrowOf("aba", "twice", ARGUMENT, w, w::hang);
        d.dueThrowOf("ac", "worn", STATE, w, w::hang);
        d.dueThrowOf("cc", "worn, and twice", ARGUMENT, w, w::hang);
        d.dueThrowOf("cz", "worn, and none", ARGUMENT, w, w::hang);
        d.due("an empty line", 0, () -> Desk.hang(w, ""));
        d.due("is an act", 1, () -> w.count(13));
        d.due("white ones alone", 0, () -> Desk.hang(w, "ad"));
        d.due("the blue one behind, then the changed one ahead", 1, () -> Desk.hang(w, "dab"));
        d.due("d was passed by then", 0, () -> w.shirt(3, 0));
        d.due("a is blue", 1, () -> w.shirt(0, 0));
        w.undo();
        d.due("from the first on", 2, () -> Desk.hang(w, "bad"));
        d.due("d is blue by a", 1, () -> w.shirt(3, 0));
        w.undo();
        w.take(0);
        d.due("the one ahead first", 1, () -> Desk.hang(w, "cab"));
        d.due("so it is red", 2, () -> w.shirt(0, 0));
        w.undo();
        w.seed(1);
        Desk.hang(w, "cab");
        d.due("and no more is drawn", Desk.draws(1, 1)[0], () -> w.seed(1) >>> 16 & 0x7fff);

        ShirtWash x = Desk.wash(FOUR_SHIRTS, "runs 0");
        x.seed(1);
        d.due("runs 0", 0, () -> Desk.hang(x, "cab"));
        d.due("both are drawn", Desk.draws(1, 2)[1], () -> x.seed(1) >>> 16 & 0x7fff);
        for (int seed = 0; seed < 40; seed++) {
            ShirtWash y = Desk.wash(FOUR_SHIRTS, "runs 30");
            y.seed(seed);
            int[] draws = Desk.draws(seed, 2);
            int want = draws[0] % 100 < 30 ? 2 : draws[1] % 100 < 30 ? 1 : 0;
            Desk.hang(y, "cab");
            d.due("colour by seed " + seed, want, () -> y.shirt(0, 0));
        }
    }

    // ---- 16, 17

    private static void truce() {
        ShirtWash w = Desk.wash(Desk.men(0), "shirt red torn 999 lice 0 starch 0;shirt red torn 2 lice 0 starch 0;shirt red torn 0 lice 0 starch 0;shirt red torn 50 lice 0 starch 0;wears 0 3");
        for (int seed = 0; seed < 20; seed++) {
            w.seed(seed);
            int[] draws = Desk.draws(seed, 4);
            int[] darned = {draws[0] % 10, Math.min(2, draws[1] % 10), 0, draws[3] % 10};
            d.due("truce by seed " + seed, darned[0] + darned[1] + darned[3], w::truce);
            d.due("999", 999 - darned[0], () -> w.shirt(0, 1));
            d.due("2", 2 - darned[1], () -> w.shirt(1, 1));
            d.due("0", 0, () -> w.shirt(2, 1));
            d.due("50, which is worn", 50 - darned[3], () -> w.shirt(3, 1));
            w.undo();
        }
        d.due("without shirts", 0, () -> new ShirtWash().truce());
    }

    private static void buttons() {
        ShirtWash w = Desk.wash(THREE_MEN, FOUR_SHIRTS, "wears 0 0");
        w.buttons(0, 3);
        d.due("0 has 3", 3, () -> w.shirt(0, 4));
        d.due("3 has 0", 0, () -> w.shirt(3, 4));
        w.buttons(3, 1);
        d.due("3 has 1", 1, () -> w.shirt(3, 4));
        d.due("1 has 0", 0, () -> w.shirt(1, 4));
        d.due("2 has 2", 2, () -> w.shirt(2, 4));
        d.dueThrow("one twice", ARGUMENT, w, () -> Desk.buttons(w, 1, 1));
        d.dueThrow("no such shirt", INDEX, w, () -> Desk.buttons(w, 4, 4));
        d.dueThrow("no such other", INDEX, w, () -> Desk.buttons(w, 0, 4));
        d.dueThrow("no shirt -1", INDEX, w, () -> Desk.buttons(w, -1, 0));
        d.due("2 acts", 2, () -> w.count(13));
    }

    // ---- 18 to 22

    private static void ways() {
        ShirtWash w = three();
        d.due("3 of 4", 24, w::ways);
        w.give(1, 1);
        d.due("2 of 3", 6, w::ways);
        Desk.law(w, "bar if place + colour > 5");
        d.due("man 2 gets white alone", 4, w::ways);
        Desk.law(w, "bar if place > 4");
        d.due("man 2 gets none", 0, w::ways);
        w.take(1);
        ShirtWash all = Desk.wash(Desk.men(1, 2, 3, 4, 5, 6, 7, 8, 9), Desk.men(10), Desk.shirts(0, 0, 0, 0, 0, 0, 0, 0, 0, 0), Desk.shirts(0, 0));
        d.due("10 of 12", 239500800, all::ways);
        ShirtWash few = Desk.wash(Desk.men(1, 2, 3), Desk.shirts(0, 0));
        d.due("more men than shirts", 0, few::ways);
        ShirtWash dressed = Desk.wash(Desk.men(1), Desk.shirts(0), "wears 0 0");
        d.due("all wear one", 1, dressed::ways);
        d.due("no act", 0, () -> all.count(13));
    }

    private static void plans(ShirtWash w, boolean cheapest, int... due) {
        for (int m = 0; m < due.length; m++) {
            int man = m;
            d.due("plan(" + m + ", " + cheapest + ")", due[m], () -> w.plan(man, cheapest));
        }
    }

    private static void plan() {
        ShirtWash w = three();
        plans(w, false, 0, 1, 2);
        plans(w, true, 0, 1, 2);
        Desk.law(w, "bar if colour > 0 and place < 5;cost 3 if wished;cost 9 if lice > 8");
        plans(w, false, 0, 3, 1);
        plans(w, true, 0, 3, 1);
        Desk.law(w, "cost 1 if button < 1;cost 2 if button > 2;cost 1 if place > 4 and button > 1");
        plans(w, false, 0, 1, 2);
        plans(w, true, 0, 2, 1);
        Desk.law(w, "bar if place < 1 and button < 3;bar if place > 4 and not button < 1");
        plans(w, false, 3, 1, 0);
        w.give(0, 3);
        plans(w, false, -1, 1, 0);
        Desk.law(w, "bar if place > 4");
        plans(w, false, -1, -1, -1);
        plans(w, true, -1, -1, -1);
        d.dueThrow("plan(3)", INDEX, w, () -> w.plan(3, false));
        d.dueThrow("plan(-1)", INDEX, w, () -> w.plan(-1, true));
    }

    private static void least() {
        ShirtWash w = three();
        d.due("no law", 0, w::least);
        Desk.law(w, "cost 5 if not wished;cost 2");
        d.due("each his wish", 6, w::least);
        Desk.law(w, "cost 5 if not wished;bar if place > 4 and colour > 1");
        d.due("one without", 5, w::least);
        Desk.law(w, "cost 999 if 1 < 2" + ";cost 999".repeat(11));
        d.due("dear", 3 * 12 * 999, w::least);
        w.give(0, 0);
        d.due("of those who wear none", 2 * 12 * 999, w::least);
        Desk.law(w, "bar if place > 4");
        d.due("none", -1, w::least);
        ShirtWash dressed = Desk.wash(Desk.men(1), Desk.shirts(0), "wears 0 0");
        d.due("all wear one", 0, dressed::least);
    }

    private static void lack() {
        ShirtWash w = three();
        d.due("there is one", 0, w::lack);
        Desk.law(w, "bar if place > 4");
        d.due("man 2 alone", 4, w::lack);
        Desk.law(w, "bar if place < 5 and button > 0");
        d.due("0 and 1 have one", 3, w::lack);
        Desk.law(w, "bar if place > 0 and button > 0");
        d.due("1 and 2 have one", 6, w::lack);
        Desk.law(w, "bar if button > 0");
        d.due("the least of several", 3, w::lack);
        Desk.law(w, "bar if place < 5 and button > 0;bar if place > 4");
        d.due("the fewest", 4, w::lack);
        w.give(1, 0);
        Desk.law(w, "bar if button > 0");
        d.due("those who wear none", 1, w::lack);
        ShirtWash few = Desk.wash(Desk.men(1, 2, 3), Desk.shirts(0, 0));
        d.due("all three", 7, few::lack);
        ShirtWash bare = Desk.wash(Desk.men(1, 2, 3));
        d.due("no shirt at all", 1, bare::lack);
    }

    private static void hand() {
        ShirtWash w = three();
        Desk.law(w, "cost 1 if button < 1;cost 2 if button > 2;cost 1 if place > 4 and button > 1");
        d.due("cheapest", 3, () -> w.hand(true));
        d.due("0 has 0", 0, () -> w.man(0, 4));
        d.due("1 has 2", 2, () -> w.man(1, 4));
        d.due("2 has 1", 1, () -> w.man(2, 4));
        d.due("lice are halved", 4, () -> w.shirt(0, 2));
        d.due("lice are halved", 1, () -> w.shirt(2, 2));
        d.due("but of those given", 7, () -> w.shirt(3, 2));
        d.due("nobody is left", 0, () -> w.hand(false));
        d.due("that is an act", 2, () -> w.count(13));
        w.undo();
        w.take(1);
        d.due("1 alone", 1, () -> w.hand(false));
        d.due("gets the least", 2, () -> w.man(1, 4));
        w.undo();
        w.undo();
        w.undo();
        d.due("first", 3, () -> w.hand(false));
        d.due("2 has 2", 2, () -> w.man(2, 4));
        w.undo();
        Desk.law(w, "bar if place > 4");
        d.dueThrow("there is none", STATE, w, () -> w.hand(false));
        d.dueThrow("there is none", STATE, w, () -> w.hand(true));
    }

    // ---- 23

    private static void lot() {
        ShirtWash w = Desk.wash(THREE_MEN, FOUR_SHIRTS, "wears 1 2");
        for (int seed = 0; seed < 20; seed++) {
            w.seed(seed);
            int[] draws = Desk.draws(seed, 2);
            int[] chest = {0, 1, 3};
            int first = chest[draws[0] % 3];
            int[] rest = first == 0 ? new int[] {1, 3} : first == 1 ? new int[] {0, 3} : new int[] {0, 1};
            d.due("lot by seed " + seed, 2, w::lot);
            d.due("man 0", first, () -> w.man(0, 4));
            d.due("man 1 keeps his", 2, () -> w.man(1, 4));
            d.due("man 2", rest[draws[1] % 2], () -> w.man(2, 4));
            w.undo();
        }
        Desk.law(w, "bar if place < 5 or button < 3");
        w.seed(1);
        d.due("0 can have none, 2 one", 1, w::lot);
        d.due("it is 3", 3, () -> w.man(2, 4));
        d.due("lice are halved", 3, () -> w.shirt(3, 2));
        d.due("one draw, for the one", Desk.draws(1, 1)[0], () -> w.seed(1) >>> 16 & 0x7fff);
        w.seed(1);
        d.due("now nobody", 0, w::lot);
        d.due("nothing is drawn", 1, () -> w.seed(1));
        d.due("an act all the same", 2, () -> w.count(13));
    }

    // ---- 24

    private static void home() {
        ShirtWash w = Desk.wash(Desk.men(0, 10, 20, 30, 31));
        d.due("with him", 0, () -> Desk.home(w, "12340", 2, 2));
        d.due("his neighbour", 0, () -> Desk.home(w, "12340", 3, 4));
        d.due("one wash", 1, () -> Desk.home(w, "12340", 0, 1));
        d.due("three washes and passing", 3, () -> Desk.home(w, "12340", 0, 4));
        d.due("passing ahead of the first wash", 1, () -> Desk.home(w, "12340", 3, 0));
        d.due("never", -1, () -> Desk.home(w, "01234", 0, 1));
        d.due("passing again and again", 0, () -> Desk.home(w, "01234", 4, 3));
        d.dueThrowOf("1234", "too few", ARGUMENT, w, () -> w.home(0, 1));
        d.dueThrowOf("123400", "too many", ARGUMENT, w, () -> w.home(0, 0));
        d.dueThrowOf("12345", "no such man", ARGUMENT, w, () -> w.home(0, 0));
        d.dueThrowOf("1234/", "no man -1", ARGUMENT, w, () -> w.home(0, 0));
        d.dueThrowOf("", "nothing", ARGUMENT, w, () -> w.home(0, 0));
        d.dueThrowOf("12340", "from nobody", INDEX, w, () -> w.home(5, 0));
        d.dueThrowOf("12340", "to nobody", INDEX, w, () -> w.home(0, -1));
        d.dueThrowOf("~", "both", INDEX, w, () -> w.home(-1, 0));
        Desk.camp(w, "near 10");
        d.due("a pass a time", 1, () -> Desk.home(w, "01234", 0, 2));
        d.due("two and one", 2, () -> Desk.home(w, "01234", 0, 3));
        ShirtWash ten = Desk.wash(Desk.men(0, 10, 20, 30, 40), Desk.men(50, 60, 70, 80, 90));
        d.due("9 washes round", 9, () -> Desk.home(ten, "1234567890", 0, 9));
        // rounds of 2, 3 and 5 men, and nobody to pass it to
        d.due("never in another round", -1, () -> Desk.home(ten, "1034267895", 0, 9));
        d.due("no act", 0, () -> w.count(13));
    }

    // ---- 25

    private static void tores(ShirtWash w, int tears, int k, long ways, long inAll, long inAny) {
        d.due("tore(" + tears + ", " + k + ", 0)", ways, () -> w.tore(tears, k, 0));
        d.due("tore(" + tears + ", " + k + ", 1)", inAll, () -> w.tore(tears, k, 1));
        d.due("tore(" + tears + ", " + k + ", 2)", inAny, () -> w.tore(tears, k, 2));
    }

    private static void tore() {
        ShirtWash w = Desk.wash("man 0 squad 0 tears 2 wish red;man 1 squad 0 tears 3 wish red;man 5 squad 0 tears 0 wish red;man 9 squad 0 tears 2 wish red");
        tores(w, 3, 1, 1, 2, 2);
        tores(w, 2, 1, 2, 0, 9);
        tores(w, 1, 1, 0, 0, 0);
        tores(w, 0, 1, 1, 4, 4);
        // 2 and 3 by men 0 and 1 is by neighbours; by 3 and 1 it is not
        tores(w, 5, 2, 2, 10, 10);
        // 0 with 3, 3 with 0; no man twice
        tores(w, 4, 2, 2, 9, 9);
        // 3: man 1 with man 2
        tores(w, 3, 2, 2, 6, 6);
        tores(w, 0, 2, 0, 0, 0);
        // 1 3 0, 3 1 3, 0 3 1: the same man again, but not behind himself
        tores(w, 7, 3, 3, 10, 11);
        d.due("too many", 0, () -> w.tore(Integer.MAX_VALUE, 6, 0));
        d.due("54 of 6", 0, () -> w.tore(54, 6, 2));
        d.dueThrow("what 3", ELEMENT, w, () -> w.tore(1, 1, 3));
        d.dueThrow("what -1", ELEMENT, w, () -> w.tore(-1, 0, -1));
        d.dueThrow("tears -1", ARGUMENT, w, () -> w.tore(-1, 1, 0));
        d.dueThrow("k 0", ARGUMENT, w, () -> w.tore(1, 0, 0));
        d.dueThrow("k 7", ARGUMENT, w, () -> w.tore(1, 7, 0));
        ShirtWash nines = Desk.wash(("man 0 squad 0 tears 9 wish red;man 2 squad 0 tears 9 wish red;man 4 squad 0 tears 9 wish red;man 6 squad 0 tears 9 wish red;man 8 squad 0 tears 9 wish red"),
                ("man 10 squad 0 tears 9 wish red;man 12 squad 0 tears 9 wish red;man 14 squad 0 tears 9 wish red;man 16 squad 0 tears 9 wish red;man 18 squad 0 tears 9 wish red"));
        tores(nines, 54, 6, 590490, 0, 1023);
        tores(nines, 53, 6, 0, 0, 0);
        tores(new ShirtWash(), 0, 1, 0, 0, 0);
    }

    // ---- 26

    private static void spies() {
        ShirtWash w = Desk.wash(Desk.men(0, 10, 20), Desk.shirts(0, 0, 0), "wears 0 0;wears 1 1;wears 2 2");
        w.days(1);
        w.give(0, 1);
        w.give(1, 2);
        w.days(1);
        d.due("none told", 0, () -> Desk.spies(w));
        d.due("man 0 wore 1", 1, () -> Desk.spies(w, 2));
        d.due("man 1 wore 2", 2, () -> Desk.spies(w, 4));
        d.due("both", 3, () -> Desk.spies(w, 6));
        d.due("0 was not worn", 0, () -> Desk.spies(w, 1));
        d.due("none ironed", 0, () -> Desk.spies(w, 0, 0));
        d.due("man 0 both times", 1, () -> Desk.spies(w, 2, 1));
        d.due("man 0 but once", -1, () -> Desk.spies(w, 2, 0));
        d.due("man 2 once of one", 4, () -> Desk.spies(w, 0, 4));
        d.due("man 1 once of two", -1, () -> Desk.spies(w, 0, 2));
        d.due("all", 7, () -> Desk.spies(w, 7, 7));
        d.dueThrow("three washes", ARGUMENT, w, () -> Desk.spies(w, 0, 0, 0));
        d.dueThrow("a bit of no shirt", ARGUMENT, w, () -> Desk.spies(w, 8));
        d.dueThrow("the highest bit", ARGUMENT, w, () -> Desk.spies(w, 0x8000));
        d.dueThrowOf("\0\0\0", "three bytes", ARGUMENT, w, w::spies);
        w.days(60);
        d.due("30 washes", 0, () -> Desk.spies(w, new int[30]));
        d.dueThrow("31 washes", ARGUMENT, w, () -> Desk.spies(w, new int[31]));
        ShirtWash many = Desk.wash(Desk.men(0), Desk.shirts(0, 0, 0, 0, 0, 0, 0, 0, 0, 0), Desk.shirts(0, 0), "wears 0 11");
        many.days(1);
        d.due("the highest first", 1, () -> Desk.spies(many, 0x800));
        d.due("its other bits", 0, () -> Desk.spies(many, 0x7ff));
    }

    // ---- 27

    private static void lines() {
        ShirtWash w = Desk.wash(Desk.men(0), Desk.shirts(3, 3, 5, 5, 1));
        d.due("4 4 6 6 2 on 11: 4+6, 4+6, 2", 3, () -> w.lines(11));
        d.due("on 12: 6+6, 4+4+2", 2, () -> w.lines(12));
        d.due("on 10: 4+6, 4+6, 2", 3, () -> w.lines(10));
        d.due("on 22", 1, () -> w.lines(22));
        d.due("on 21", 2, () -> w.lines(21));
        d.due("on 6", 4, () -> w.lines(6));
        d.due("on 5", -1, () -> w.lines(5));
        Desk.camp(w, "shirt red torn 0 lice 0 starch 1;shirt blue torn 0 lice 0 starch 2");
        d.due("others apart", 2, () -> w.lines(99));
        d.due("red with blue", 4, () -> w.lines(10));
        Desk.camp(w, "wears 0 0");
        d.due("of the chest alone", 2, () -> w.lines(18));
        d.dueThrow("length 0", ARGUMENT, w, () -> w.lines(0));
        d.dueThrow("length 100", ARGUMENT, w, () -> w.lines(100));
        d.dueThrow("length -1", ARGUMENT, w, () -> w.lines(-1));
        ShirtWash all = Desk.wash(Desk.shirts(9, 9, 9, 9, 9, 9, 9, 9, 9, 9), Desk.shirts(9, 9));
        d.due("12 of 10 on 99", 2, () -> all.lines(99));
        d.due("12 of 10 on 10", 12, () -> all.lines(10));
        d.due("12 of 10 on 9", -1, () -> all.lines(9));
        ShirtWash tight = Desk.wash(Desk.shirts(5, 5, 5, 2, 2, 2, 1, 1, 1));
        d.due("6 3 2 three times on 11", 3, () -> tight.lines(11));
        ShirtWash none = Desk.wash(Desk.men(0), Desk.shirts(4), "wears 0 0");
        d.due("an empty chest", 0, () -> none.lines(1));
    }

    // ---- 28

    private static void blue() {
        ShirtWash w = Desk.wash("runs 33");
        d.due("one, once", 670000000, () -> w.blue(1, -1, 1));
        d.due("red is none the less", 670000000, () -> w.blue(0, 2, 1));
        d.due("two, once", 448900000, () -> w.blue(2, 1, 1));
        d.due("none", 1000000000, () -> w.blue(-1, 0, 9));
        long odds = 1000000000L;
        for (int i = 0; i < 18; i++) {
            odds = odds * 67 / 100;
        }
        d.due("two, 9 times", odds, () -> w.blue(1, 1, 9));
        d.due("runs 100", 0, () -> Desk.wash("runs 100").blue(1, -1, 1));
        d.due("runs 0", 1000000000, () -> Desk.wash("runs 0").blue(1, 2, 9));
        d.due("at first", 500000000, () -> new ShirtWash().blue(1, -1, 1));
        d.dueThrow("n 0", ARGUMENT, w, () -> w.blue(1, 1, 0));
        d.dueThrow("n 10", ARGUMENT, w, () -> w.blue(1, 1, 10));
        d.dueThrow("ahead 3", ARGUMENT, w, () -> w.blue(3, 1, 1));
        d.dueThrow("ahead -2", ARGUMENT, w, () -> w.blue(-2, 1, 1));
        d.dueThrow("behind 3", ARGUMENT, w, () -> w.blue(0, 3, 1));
        d.dueThrow("behind -2", ARGUMENT, w, () -> w.blue(0, -2, 1));
    }

    // ---- 29

    private static void trace() {
        ShirtWash w = Desk.wash(Desk.men(0, 10, 20), Desk.shirts(0, 0), "wears 0 0");
        d.due("no wash yet", 0, () -> w.trace(0));
        w.days(1);
        w.give(1, 0);
        w.days(1);
        w.give(0, 0);
        w.give(2, 1);
        w.days(1);
        d.due("0 and 1", 2, () -> w.trace(0));
        d.due("2", 1, () -> w.trace(1));
        w.buttons(0, 1);
        d.due("now on shirt 1", 1, () -> w.trace(0));
        d.due("now on shirt 0", 2, () -> w.trace(1));
        d.dueThrow("no such button", ARGUMENT, w, () -> w.trace(2));
        d.dueThrow("no button -1", ARGUMENT, w, () -> w.trace(-1));
        w.days(28);
        d.due("the first is out of the ledger", 2, () -> w.trace(1));
        w.days(1);
        d.due("the second, too", 1, () -> w.trace(1));
    }

    // ---- 30

    private static void seed() {
        ShirtWash w = three();
        d.due("1 at first", 1, () -> w.seed(-5));
        d.due("what it was", -5, () -> w.seed(Integer.MIN_VALUE));
        w.truce();
        int now = Integer.MIN_VALUE;
        for (int i = 0; i < 4; i++) {
            now = now * 1103515245 + 12345;
        }
        d.due("it goes round", now, () -> w.seed(0));
        d.due("no act of its own", 1, () -> w.count(13));
        w.undo();
        d.due("as ahead of the act", Integer.MIN_VALUE, () -> w.seed(0));
    }

    // ---- 31

    private static void undo() {
        ShirtWash w = three();
        d.due("nothing yet", false, w::undo);
        String[] before = new String[15];
        for (int i = 0; i < 15; i++) {
            before[i] = Desk.all(w);
            if (i % 3 == 0) w.lot();
            else if (i % 3 == 1) w.days(1 + i);
            else w.truce();
        }
        d.due("12 are remembered", 12, () -> w.count(13));
        for (int i = 14; i >= 3; i--) {
            d.due("undo " + i, true, w::undo);
            d.due("as ahead of " + i, but13(before[i]), () -> but13(Desk.all(w)));
        }
        d.due("no more", false, w::undo);
        d.due("as it was", but13(before[3]), () -> but13(Desk.all(w)));
        w.feed(1, 2, 3, 4, 5);
        w.truce();
        w.feed(1, 2, 3, 4, 5);
        w.undo();
        d.due("the tape stays", 60, () -> w.feed(1, 2, 3, 4, 5));
    }

    /** All but how many acts can be undone. */
    private static String but13(String all) {
        String[] parts = all.split(" ");
        parts[13] = "";
        return String.join(" ", parts);
    }

    private static void undoes(String act, ShirtWash w, Runnable call) {
        String before = Desk.all(w);
        call.run();
        d.due(act + " is one act", 1, () -> w.count(13));
        d.due(act + " is undone", true, w::undo);
        d.due(act + ": all is as ahead of it", before, () -> Desk.all(w));
    }

    private static void undoneByEachAct() {
        ShirtWash w = Desk.wash(THREE_MEN, FOUR_SHIRTS, "wears 0 0;runs 100;rainy 40");
        Desk.law(w, "bar if same;cost 2 if wished");
        undoes("days", w, () -> w.days(9));
        undoes("give", w, () -> w.give(1, 3));
        undoes("take", w, () -> w.take(0));
        undoes("hand", w, () -> w.hand(true));
        undoes("lot", w, w::lot);
        undoes("hang", w, () -> Desk.hang(w, "bd"));
        undoes("an empty hang", w, () -> Desk.hang(w, ""));
        undoes("truce", w, w::truce);
        undoes("buttons", w, () -> w.buttons(0, 1));
        w.truce();
        w.image();
        w.lot();
        w.undo();
        d.due("the image stays", true, w::back);
    }

    // ---- 32, 33

    private static void image() {
        ShirtWash w = three();
        w.truce();
        w.image();
        d.due("acts stay remembered", 1, () -> w.count(13));
        String kept = Desk.all(w);
        w.undo();
        w.back();
        d.due("as it was kept", but13(kept), () -> but13(Desk.all(w)));
        w.lot();
        w.image();
        String again = Desk.all(w);
        w.days(40);
        w.back();
        d.due("the later one alone", but13(again), () -> but13(Desk.all(w)));
    }

    private static void back() {
        ShirtWash w = three();
        w.truce();
        String before = Desk.all(w);
        d.due("none was kept", false, w::back);
        d.due("nothing happens", before, () -> Desk.all(w));
        Desk.law(w, "bar if same;cost 4");
        w.image();
        String kept = Desk.all(w);
        Desk.camp(w, "near 9;man 7 squad 7 tears 7 wish red;shirt red torn 0 lice 0 starch 0;wears 1 1;rainy 3;runs 4");
        Desk.law(w, "cost 1");
        w.days(3);
        w.lot();
        w.feed(0, 0, 0, 0, 0);
        d.due("back", true, w::back);
        d.due("all is as it was kept", kept, () -> Desk.all(w));
        d.due("none are remembered", false, w::undo);
        d.due("the tape stays", 40, () -> w.feed(0, 0, 0, 0, 0));
        w.end(0);
        w.days(60);
        d.due("back again", true, w::back);
        d.due("all is as it was kept", kept, () -> Desk.all(w));
    }

    // ---- 34

    private static void count() {
        ShirtWash w = Desk.wash(THREE_MEN, FOUR_SHIRTS, "wears 1 1;near 4;rainy 5;runs 6");
        Desk.law(w, "bar;bar");
        w.seed(1);
        w.days(10);
        w.seed(1);
        int dry = 0;
        for (int draw : Desk.draws(1, 10)) {
            dry += draw % 100 < 5 ? 0 : 1;
        }
        int[] due = {3, 4, 3, 2, 10, dry, 4, 5, 6, 4, 3, 9, 22, 1, -1};
        for (int i = 0; i < due.length; i++) {
            int what = i;
            d.due("count(" + i + ")", due[i], () -> w.count(what));
        }
        d.due("count(-1)", -1, () -> w.count(-1));
        d.due("count(max)", -1, () -> w.count(Integer.MAX_VALUE));
        w.undo();
        d.due("in the chest", 3, () -> w.count(9));
        d.due("who wear none", 2, () -> w.count(10));
        d.due("acts", 0, () -> w.count(13));
    }
}
