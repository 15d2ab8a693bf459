import java.util.function.ToIntFunction;

/** The sentences of the document on texts that name a bound: just inside, just outside, the empty and the full. */
public final class TextBoundsTest {
    private static final String ARGUMENT = "IllegalArgumentException";
    private static final String FULL = "UnsupportedOperationException";
    private static final String MAN = "man 0 squad 0 tears 0 wish red";
    private static final String SHIRT = "shirt red torn 0 lice 0 starch 0";

    private static final Desk d = new Desk("TextBoundsTest");

    public static void main(String[] args) {
        numbersOfMen();
        numbersOfShirts();
        numbersOfTheCamp();
        numbersOfLaws();
        colours();
        wearers();
        wearersByThen();
        linesOfTheCamp();
        linesOfTheLaw();
        textsOfTheCamp();
        menFull();
        shirtsFull();
        ofAWrongTextNothingStays();
        deep();
        deepSideBySide();
        wordsAndNumbers();
        blanks();
        emptyTexts();
        fullTapes();
        textsThatEndTooSoon();
        signsThatCannotStandThere();
        theFirstOfSeveralWrongThings();
        lawInPlaceOfTheOneBefore();
        longSums();
        d.end();
    }

    private static void right(ShirtWash w, String text) {
        d.due("camp of '" + text + "'", w.count(2) + 1, () -> Desk.camp(w, text));
        d.due("no fault in '" + text + "'", -1, w::fault);
    }

    private static void wrong(ShirtWash w, int fault, String text) {
        d.dueThrowOf(text, "camp", ARGUMENT, w, w::camp);
        d.due("fault of '" + text + "'", fault, w::fault);
    }

    private static void rightLaw(ShirtWash w, int lines, String text) {
        d.due("law of '" + text + "'", lines, () -> Desk.law(w, text));
        d.due("no fault in '" + text + "'", -1, w::fault);
    }

    private static void wrongLaw(ShirtWash w, int fault, String text) {
        d.dueThrowOf(text, "law", ARGUMENT, w, w::law);
        d.due("fault of '" + text + "'", fault, w::fault);
    }

    /** A number from 0 to the most goes, written with 1 to 3 digits; the next one and a fourth digit do not. */
    private static void bounds(String ahead, String behind, int most, ToIntFunction<ShirtWash> seen) {
        for (int number : new int[] {0, 1, most - 1, most}) {
            for (String digits : new String[] {String.valueOf(number), String.format("%02d", number), String.format("%03d", number)}) {
                ShirtWash w = new ShirtWash();
                right(w, ahead + digits + behind);
                d.due("it is told by " + ahead + digits, number, () -> seen.applyAsInt(w));
            }
        }
        int at = ahead.length();
        wrong(new ShirtWash(), at, ahead + (most + 1) + behind);
        wrong(new ShirtWash(), at, ahead + "0000" + behind);
        wrong(new ShirtWash(), at, ahead + "0001" + behind);
        wrong(new ShirtWash(), at, ahead + String.format("%04d", most) + behind);
        wrong(new ShirtWash(), at, ahead + "1000" + behind);
        wrong(new ShirtWash(), at, ahead + "4294967296" + behind);
        wrong(new ShirtWash(), at, ahead + "-1" + behind);
        wrong(new ShirtWash(), at, ahead + "+1" + behind);
        wrong(new ShirtWash(), at, ahead.stripTrailing() + " red" + behind);
        wrong(new ShirtWash(), at, ahead);
    }

    // "a PLACE 0 to 99 in the row, a SQUAD 0 to 9, TEARS 0 to 9"
    private static void numbersOfMen() {
        bounds("man ", " squad 0 tears 0 wish red", 99, w -> w.man(0, 0));
        bounds("man 0 squad ", " tears 0 wish red", 9, w -> w.man(0, 1));
        bounds("man 0 squad 0 tears ", " wish red", 9, w -> w.man(0, 2));
    }

    // "TORN 0 to 999; LICE 0 to 99; STARCH 0 to 9"
    private static void numbersOfShirts() {
        bounds("shirt red torn ", " lice 0 starch 0", 999, w -> w.shirt(0, 1));
        bounds("shirt red torn 0 lice ", " starch 0", 99, w -> w.shirt(0, 2));
        bounds("shirt red torn 0 lice 0 starch ", "", 9, w -> w.shirt(0, 3));
    }

    // "NEAR apart (0 to 99", "RAINY: .. 0 to 100", "RUNS: .. 0 to 100"
    private static void numbersOfTheCamp() {
        bounds("near ", "", 99, w -> w.count(6));
        bounds("rainy ", "", 100, w -> w.count(7));
        bounds("runs ", "", 100, w -> w.count(8));
    }

    // "All numbers are of 1 to 3 digits"
    private static void numbersOfLaws() {
        ShirtWash w = Desk.wash(MAN, SHIRT);
        for (int number : new int[] {0, 1, 9, 10, 99, 100, 998, 999}) {
            rightLaw(w, 1, "cost " + String.format("%03d", number));
            d.due("cost " + number, number, () -> w.cost(0, 0));
            rightLaw(w, 1, "cost " + number);
            d.due("cost " + number, number, () -> w.cost(0, 0));
            rightLaw(w, 1, "bar if " + number + " < " + String.format("%03d", number));
            d.due("no number is below itself", false, () -> w.barred(0, 0));
            rightLaw(w, 1, "bar if " + number + " > " + number);
            d.due("no number is above itself", false, () -> w.barred(0, 0));
            rightLaw(w, 1, "bar if " + number + " < 1 + " + number);
            d.due("it is below the next", true, () -> w.barred(0, 0));
        }
        wrongLaw(w, 5, "cost 1000");
        wrongLaw(w, 5, "cost 0999");
        wrongLaw(w, 5, "cost -1");
        wrongLaw(w, 7, "bar if 1000 > 1");
        wrongLaw(w, 7, "bar if 0000 < 1");
        wrongLaw(w, 11, "bar if 1 < 0001");
        wrongLaw(w, 15, "bar if 1 < 1 + 1000");
        wrongLaw(w, 5, "cost 99999999999999999999");
    }

    // "COLOUR: white, blue, red"
    private static void colours() {
        String[] names = {"white", "blue", "red"};
        for (int i = 0; i < names.length; i++) {
            int colour = i;
            ShirtWash w = new ShirtWash();
            right(w, "man 0 squad 0 tears 0 wish " + names[i]);
            d.due("wish " + names[i], colour, () -> w.man(0, 3));
            right(w, "shirt " + names[i] + " torn 0 lice 0 starch 0");
            d.due("colour " + names[i], colour, () -> w.shirt(0, 0));
        }
        for (String none : new String[] {"0", "1", "green", "whit", "whites", "White", "wears", "bar", "colour", ";", "("}) {
            wrong(new ShirtWash(), 27, "man 0 squad 0 tears 0 wish " + none);
            wrong(new ShirtWash(), 6, "shirt " + none + " torn 0 lice 0 starch 0");
        }
    }

    // "M: a man, S: a SHIRT that there is by then, who wears none, that nobody wears (else S is wrong; one who wears one: M)"
    private static void wearers() {
        ShirtWash w = Desk.wash(Desk.men(0, 5, 10), Desk.shirts(0, 0, 0, 0));
        wrong(w, 6, "wears 3 0");
        wrong(w, 6, "wears 999 0");
        wrong(w, 6, "wears 0000 0");
        wrong(w, 8, "wears 0 4");
        wrong(w, 8, "wears 0 999");
        wrong(w, 8, "wears 0 0000");
        wrong(w, 6, "wears 3 4");
        right(w, "wears 2 3");
        d.due("the last man", 3, () -> w.man(2, 4));
        d.due("the last shirt", 2, () -> w.shirt(3, 5));
        right(w, "wears 000 000");
        d.due("the first man", 0, () -> w.man(0, 4));
        wrong(w, 6, "wears 0 1");
        wrong(w, 6, "wears 0 0");
        wrong(w, 6, "wears 0 9");
        wrong(w, 8, "wears 1 0");
        wrong(w, 8, "wears 1 3");
        wrong(w, 18, "wears 1 2;wears   1 1");
        right(w, "wears 1 2");
        d.due("in the chest is one", 1, () -> w.count(9));
        d.due("nobody wears none", 0, () -> w.count(10));
    }

    private static void wearersByThen() {
        String both = MAN + ";" + SHIRT;
        right(new ShirtWash(), both + ";wears 0 0");
        wrong(new ShirtWash(), 6, "wears 0 0;" + both);
        wrong(new ShirtWash(), MAN.length() + 9, MAN + ";wears 0 0;" + SHIRT);
        wrong(new ShirtWash(), SHIRT.length() + 7, SHIRT + ";wears 0 0;" + MAN);
        wrong(new ShirtWash(), both.length() + 17, both + ";wears 0 0;wears 0 0");
        ShirtWash w = Desk.wash(both);
        right(w, "wears 0 0");
        d.due("he wears it", 0, () -> w.man(0, 4));
        w.days(1);
        right(w, "wears 0 0");
        d.due("again, behind the wash", 0, () -> w.man(0, 4));
    }

    // "LINE { ; LINE }, at most 14"; "of a LINE too many .. the first word"
    private static void linesOfTheCamp() {
        right(new ShirtWash(), "near 1");
        right(new ShirtWash(), "near 1" + ";near 2".repeat(12));
        ShirtWash w = new ShirtWash();
        right(w, "near 1" + ";near 2".repeat(12) + ";near 3");
        d.due("the 14th counts", 3, () -> w.count(6));
        wrong(w, 98, "near 1" + ";near 2".repeat(14));
        wrong(w, 101, "near 1" + ";near 2".repeat(13) + "  ; near 4");
        wrong(w, 98, "near 1" + ";near 2".repeat(13) + ";x");
        wrong(w, 98, "near 1" + ";near 2".repeat(13) + ";");
        wrong(w, 100, "near 1" + ";near 2".repeat(13) + ";  ");
        wrong(w, 97, "near 1" + ";near 2".repeat(13) + "x");
        right(w, "near 1" + ";near 5".repeat(13));
        d.due("each text has its own 14", 2, () -> w.count(2));
    }

    // "LINE { ; LINE }, at most 12"
    private static void linesOfTheLaw() {
        ShirtWash w = Desk.wash(MAN, SHIRT);
        d.due("none yet", -1, () -> w.count(3));
        for (int lines = 1; lines <= 12; lines++) {
            rightLaw(w, lines, "cost 1" + ";cost 1".repeat(lines - 1));
            int many = lines;
            d.due("all count", many, () -> w.cost(0, 0));
            d.due("lines", many, () -> w.count(3));
        }
        wrongLaw(w, 84, "cost 1" + ";cost 1".repeat(12));
        wrongLaw(w, 85, "cost 1" + ";cost 1".repeat(11) + "; bar");
        wrongLaw(w, 84, "cost 1" + ";cost 1".repeat(11) + ";");
        wrongLaw(w, 83, "cost 1" + ";cost 1".repeat(11) + ")");
        d.due("the 12 stay", 12, () -> w.cost(0, 0));
        rightLaw(w, 12, "cost 1" + ";cost 1".repeat(10) + ";bar");
        d.due("the 12th counts", true, () -> w.barred(0, 0));
    }

    // "THE CAMP is told in texts (at most 10, one behind another)"; "UnsupportedOperationException: there are 10"
    private static void textsOfTheCamp() {
        ShirtWash w = new ShirtWash();
        for (int text = 1; text <= 10; text++) {
            int many = text;
            d.due("text " + text, many, () -> Desk.camp(w, many % 2 == 0 ? "" : "near " + many));
            d.due("texts", many, () -> w.count(2));
            wrong(w, 5, "near 100");
        }
        d.dueThrowOf("near 50", "an 11th", FULL, w, w::camp);
        d.due("an 11th that is right was read", -1, w::fault);
        d.due("near stays", 9, () -> w.count(6));
        d.dueThrowOf("", "an empty 11th", FULL, w, w::camp);
        wrong(w, 0, "x");
        wrong(w, 4, "near");
        d.due("the law is another text", 1, () -> Desk.law(w, "bar"));
        d.due("10 stay", 10, () -> w.count(2));

        ShirtWash x = Desk.wash("", "", "", "", "", "", "", "", "");
        x.image();
        right(x, "near 3");
        d.dueThrowOf("near 4", "the 11th", FULL, x, x::camp);
        x.back();
        d.due("9 again", 9, () -> x.count(2));
        right(x, "near 5");
        d.dueThrowOf("near 6", "the 11th again", FULL, x, x::camp);
    }

    // "MEN (at most 10, numbered from 0 on)"; "of a man .. too many, the first word"
    private static void menFull() {
        ShirtWash w = Desk.wash(Desk.men(1, 2, 3, 4, 5, 6, 7, 8));
        wrong(w, 2 * MAN.length() + 2, MAN + ";" + MAN + ";" + MAN);
        d.due("8 stay", 8, () -> w.count(0));
        right(w, MAN + "; " + MAN);
        d.due("10", 10, () -> w.count(0));
        wrong(w, 0, MAN);
        wrong(w, 2, "  " + MAN);
        wrong(w, 0, "man");
        wrong(w, 0, "man x");
        wrong(w, 7, "near 9;man 100");
        d.due("10 stay", 10, () -> w.count(0));
        d.due("the last one", 0, () -> w.man(9, 0));
        right(w, SHIRT + ";wears 9 0");
        ShirtWash one = new ShirtWash();
        String ten = "man1squad1tears1wish red" + ";man1squad1tears1wish red".repeat(9);
        right(one, ten);
        ShirtWash more = new ShirtWash();
        wrong(more, 250, ten + ";man1squad1tears1wish red");
        d.due("none stays", 0, () -> more.count(0));
    }

    // "SHIRTS (at most 12, numbered from 0 on)"; "a BUTTON (its number at first)"
    private static void shirtsFull() {
        ShirtWash w = Desk.wash(Desk.shirts(0, 0, 0, 0, 0, 0, 0, 0, 0, 0));
        wrong(w, 2 * SHIRT.length() + 2, SHIRT + ";" + SHIRT + ";" + SHIRT);
        d.due("10 stay", 10, () -> w.count(1));
        right(w, SHIRT + "; " + SHIRT);
        d.due("12", 12, () -> w.count(1));
        wrong(w, 0, SHIRT);
        wrong(w, 1, " " + SHIRT);
        wrong(w, 0, "shirt");
        wrong(w, 0, "shirt green");
        wrong(w, 7, "near 9;shirt");
        for (int shirt = 0; shirt < 12; shirt++) {
            int number = shirt;
            d.due("button " + shirt, number, () -> w.shirt(number, 4));
        }
        right(w, MAN + ";wears 0 11");
        d.due("the last one is worn", 0, () -> w.shirt(11, 5));
    }

    // "Of a wrong text nothing stays"
    private static void ofAWrongTextNothingStays() {
        String all = MAN + ";" + SHIRT + ";near 7;rainy 8;runs 9;wears 0 0";
        wrong(new ShirtWash(), all.length() + 1, all + ";");
        ShirtWash w = Desk.wash(Desk.men(0, 50), Desk.shirts(3, 4));
        Desk.law(w, "bar if same;cost 3");
        w.lot();
        wrong(w, all.length() - 3, all);
        wrongLaw(w, 17, "cost 9;bar;bar if");
        wrongLaw(w, 4, "bar cost");
        d.due("the act stays remembered", true, w::undo);
    }

    // "( and not within one another at most 6 deep"; "the ( or not that is a 7th one deep"
    private static void deep() {
        ShirtWash w = Desk.wash(MAN, SHIRT);
        for (int open = 0; open <= 6; open++) {
            int nots = 6 - open;
            String text = "bar if " + "(".repeat(open) + "not ".repeat(nots) + "same" + ")".repeat(open);
            rightLaw(w, 1, text);
            d.due("it holds by " + nots + " nots", nots % 2 == 1, () -> w.barred(0, 0));
            String turned = "bar if " + "not ".repeat(nots) + "(".repeat(open) + "same" + ")".repeat(open);
            rightLaw(w, 1, turned);
            d.due("it holds by " + nots + " nots ahead", nots % 2 == 1, () -> w.barred(0, 0));
            wrongLaw(w, 7 + open + 4 * nots, "bar if " + "(".repeat(open) + "not ".repeat(nots) + "(same" + ")".repeat(open + 1));
            wrongLaw(w, 7 + open + 4 * nots, "bar if " + "not ".repeat(nots) + "(".repeat(open) + "not same" + ")".repeat(open));
        }
        wrongLaw(w, 13, "bar if " + "(".repeat(300));
        wrongLaw(w, 31, "bar if " + "not ".repeat(90));
        wrongLaw(w, 13, "bar if ((((((");
        wrongLaw(w, 31, "bar if not not not not not not ");
        wrongLaw(w, 13, "bar if ((((((x");
    }

    private static void deepSideBySide() {
        ShirtWash w = Desk.wash(MAN, SHIRT);
        String six = "((((((same))))))";
        rightLaw(w, 1, "bar if " + six + " or " + six + " and " + six);
        rightLaw(w, 2, "bar if " + six + ";cost 1 if " + six);
        rightLaw(w, 1, "bar if not not not not not not same or not not not not not not same and not not not not not not same");
        rightLaw(w, 1, "bar if (((((not same and not same or not same and (same))))))");
        wrongLaw(w, 28, "bar if (((((not same and not(same))))))");
        wrongLaw(w, 21, "bar if (((((same or (not same))))))");
    }

    // "Words are as long as a to z go on"; "a word that is none"
    private static void wordsAndNumbers() {
        ShirtWash w = new ShirtWash();
        wrong(w, 4, "near`1");
        wrong(w, 4, "near{1");
        wrong(w, 0, "neara 1");
        wrong(w, 0, "nearz 1");
        wrong(w, 0, "anear 1");
        wrong(w, 0, "znear 1");
        wrong(w, 0, "nea 1");
        wrong(w, 4, "nearA 1");
        wrong(w, 0, "Near 1");
        wrong(w, 6, "near 1/");
        wrong(w, 6, "near 1:");
        wrong(w, 6, "near 1a");
        wrong(w, 7, "near 1 2");
        wrong(w, 0, "nea" + (char) 233 + " 1");
        wrong(w, 4, "near" + (char) 233 + " 1");
        wrong(w, 4, "near.1");
        right(w, "near1");
        right(w, "near01;near2");
        rightLaw(w, 1, "bar if(same)or not(same)and torn<3");
        rightLaw(w, 1, "bar if 1<2or 2<1");
        wrongLaw(w, 7, "bar if samex");
        wrongLaw(w, 0, "bars");
        wrongLaw(w, 4, "bar ifsame");
        wrongLaw(w, 7, "bar if notsame");
        wrongLaw(w, 10, "bar if 11 = 2");
    }

    // "between all there may be blanks (32), also ahead and behind"
    private static void blanks() {
        ShirtWash w = new ShirtWash();
        right(w, "   man   0   squad   0   tears   0   wish   red   ;   near   7   ");
        right(w, SHIRT + "  ;  wears  0  0  ");
        for (int sign : new int[] {0, 9, 10, 13, 31, 33, 127, 160, 255}) {
            wrong(w, 0, (char) sign + "near 1");
            wrong(w, 4, "near" + (char) sign + "1");
            wrong(w, 6, "near 1" + (char) sign);
            wrongLaw(w, 3, "bar" + (char) sign + "if same");
        }
        rightLaw(w, 2, "  bar  if  (  same  )  ;  cost  1  if  1  +  2  <  3  ");
    }

    // "A text that is empty, or blanks alone, has no LINE"
    private static void emptyTexts() {
        ShirtWash w = Desk.wash(Desk.men(0, 1), Desk.shirts(0, 0), "wears 0 0");
        w.days(1);
        d.due("without a text: neighbour", true, () -> w.barred(1, 0));
        d.due("no law", -1, () -> w.count(3));
        rightLaw(w, 0, "");
        d.due("a law of no line", 0, () -> w.count(3));
        d.due("bars none", false, () -> w.barred(1, 0));
        rightLaw(w, 0, " ".repeat(7));
        right(w, "");
        right(w, " ");
        right(w, " ".repeat(21));
        d.due("nothing else", 2, () -> w.count(0));
        wrong(w, 0, ";");
        wrong(w, 3, "   ;  ");
        wrongLaw(w, 0, ";");
        wrongLaw(w, 4, "bar;");
        wrongLaw(w, 4, "bar;;bar");
    }

    private static void fullTapes() {
        ShirtWash w = new ShirtWash();
        right(w, " ".repeat(400));
        right(w, "near 1" + " ".repeat(394));
        right(w, " ".repeat(394) + "near 2");
        wrong(w, 399, "near 1" + " ".repeat(393) + "x");
        wrong(w, 399, "near 1" + " ".repeat(393) + "9");
        wrong(w, 400, "near 1" + " ".repeat(393) + ";");
        wrong(w, 400, "near" + " ".repeat(396));
        wrong(w, 0, "near".repeat(100));
        wrong(w, 5, "near " + "1".repeat(395));
        wrong(w, 0, ";".repeat(400));
        rightLaw(w, 0, " ".repeat(400));
        rightLaw(w, 1, "bar if 1<2" + "or 1<2".repeat(65));
        wrongLaw(w, 400, "bar if 1<2" + "or 1<2".repeat(64) + "or 12<");
        wrongLaw(w, 399, "bar if 1<2" + "or 1<2".repeat(64) + "or 1<)");
        wrongLaw(w, 400, "bar if 1" + "+1".repeat(196));
        wrongLaw(w, 3, "bar" + "(".repeat(397));
    }

    // "or the text's length, if more must come"
    private static void textsThatEndTooSoon() {
        cutCamp("man", "12", "squad", "3", "tears", "4", "wish", "red");
        cutCamp("shirt", "blue", "torn", "5", "lice", "6", "starch", "7");
        cutCamp("near", "1");
        cutCamp("rainy", "1");
        cutCamp("runs", "1");
        cutCamp("wears", "0", "0");
        cutLaw("cost", "5");
        cutLaw("bar", "if", "same");
        cutLaw("cost", "7", "if", "torn", "+", "2", "<", "lice");
        cutLaw("bar", "if", "(", "same", "or", "not", "wished", "and", "neighbour", ")");
    }

    /** Without its last things, and with blanks behind, a line wants more, unless it is whole as it is. */
    private static void cutCamp(String... things) {
        StringBuilder text = new StringBuilder();
        for (int i = 0; i + 1 < things.length; i++) {
            text.append(things[i]).append(' ');
            ShirtWash w = Desk.wash(MAN, SHIRT);
            wrong(w, text.length() - 1, text.toString().stripTrailing());
            wrong(w, text.length() + 1, text + " ");
            wrong(w, text.length(), text + ";near 1");
        }
    }

    private static void cutLaw(String... things) {
        StringBuilder text = new StringBuilder();
        for (int i = 0; i + 1 < things.length; i++) {
            text.append(things[i]).append(' ');
            boolean whole = things[i + 1].equals("if");
            ShirtWash w = Desk.wash(MAN, SHIRT);
            if (whole) {
                rightLaw(w, 1, text.toString());
            } else {
                wrongLaw(w, text.length() - 1, text.toString().stripTrailing());
                wrongLaw(w, text.length() + 1, text + " ");
                wrongLaw(w, text.length(), text + ";bar");
            }
        }
    }

    private static void signsThatCannotStandThere() {
        ShirtWash w = Desk.wash(MAN, SHIRT);
        for (String behindASum : "; ) = - ( not or and same 7 if".split(" ")) {
            wrongLaw(w, 9, "bar if 1 " + behindASum + " 2");
        }
        for (String forAnAtom : "; ) < > + or and if bar".split(" ")) {
            wrongLaw(w, 7, "bar if " + forAnAtom + " 1 < 2");
        }
        for (String forAPart : "; ) < > + or and same if bar not (".split(" ")) {
            wrongLaw(w, 11, "bar if 1 < " + forAPart);
        }
        for (String forAClose : "; ( < > + not same 7 if bar".split(" ")) {
            wrongLaw(w, 13, "bar if (same " + forAClose);
        }
        for (String behindAnAtom : ") ( < > + not same 7 if bar".split(" ")) {
            wrongLaw(w, 12, "bar if same " + behindAnAtom + " same");
        }
        for (String behindALine : "( ) < > + , 7 near".split(" ")) {
            wrong(w, 7, "near 1 " + behindALine + " near 2");
        }
    }

    // "The first wrong byte: the begin of the first thing that cannot stand there"
    private static void theFirstOfSeveralWrongThings() {
        ShirtWash w = new ShirtWash();
        wrong(w, 5, "near 100;near 1000;x");
        wrong(w, 7, "near 1;x;near 100");
        wrong(w, 4, "man 100 squad 10 tears 10 wish green");
        wrong(w, 12, "man 0 squad 10 tears 10 wish green");
        wrong(w, 4, "man squad");
        wrong(w, 6, "man 0 near 100");
        wrongLaw(w, 0, "x;bar if");
        wrongLaw(w, 7, "bar if x;bar if");
        wrongLaw(w, 8, "bar if (x");
        wrongLaw(w, 9, "bar if 1 1000 < 5");
    }

    // "THE LAW (a text, in place of the one before)"
    private static void lawInPlaceOfTheOneBefore() {
        ShirtWash w = Desk.wash(MAN, SHIRT);
        for (int i = 0; i < 15; i++) {
            int many = i % 3;
            rightLaw(w, many + 1, "cost " + i + ";cost 0".repeat(many));
            int cost = i;
            d.due("the latest law alone", cost, () -> w.cost(0, 0));
        }
        d.due("laws are no texts of the camp", 2, () -> w.count(2));
    }

    private static void longSums() {
        ShirtWash w = Desk.wash("man 99 squad 9 tears 9 wish red", "shirt red torn 999 lice 99 starch 9");
        String sum = "999" + "+999".repeat(46);
        rightLaw(w, 1, "bar if " + sum + "+998<" + sum + "+999");
        d.due("one less", true, () -> w.barred(0, 0));
        rightLaw(w, 1, "bar if " + sum + "+999<" + sum + "+999");
        d.due("as many", false, () -> w.barred(0, 0));
        rightLaw(w, 1, "bar if " + sum + "+999>" + sum + "+torn");
        d.due("torn 999", false, () -> w.barred(0, 0));
        String parts = "colour+torn+lice+starch+button+squad+place+tears+washes";
        rightLaw(w, 2, "bar if " + parts + ">999+226;cost 5 if " + parts + "<999+228");
        d.due("2+999+99+9+0+9+99+9+0 is 1226: above 1225", true, () -> w.barred(0, 0));
        d.due("and below 1227", 5, () -> w.cost(0, 0));
        for (int i = 0; i < 17; i++) {
            w.days(60);
        }
        rightLaw(w, 2, "bar if washes>999+20;cost 5 if washes>999+21");
        d.due("1020 washes are above 1019", true, () -> w.barred(0, 0));
        d.due("and not above 1020", 0, () -> w.cost(0, 0));
    }
}
