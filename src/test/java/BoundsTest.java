import java.util.ArrayList;
import java.util.Arrays;
import java.util.List;

/** The sentences of the document on acts and questions that name a bound: just inside, just outside, empty, full, round. */
public final class BoundsTest {
    private static final int MIN = Integer.MIN_VALUE;
    private static final int MAX = Integer.MAX_VALUE;
    private static final int[] NO_DAYS = {0, -1, 61, 62, MIN, MAX};
    private static final String INDEX = "IndexOutOfBoundsException";
    private static final String ARGUMENT = "IllegalArgumentException";
    private static final String STATE = "IllegalStateException";
    private static final String ELEMENT = "NoSuchElementException";
    private static final String TEN_MEN = Desk.men(0, 2, 4, 6, 8, 10, 12, 14, 16, 18);
    private static final String TEN_SHIRTS = Desk.shirts(0, 0, 0, 0, 0, 0, 0, 0, 0, 0);
    private static final String TWO_SHIRTS = Desk.shirts(0, 0);

    private static final Desk d = new Desk("BoundsTest");

    public static void main(String[] args) {
        tapeFull();
        tapeCut();
        bytesOfNumbers();
        bytesThatWereCut();
        neighbours();
        atFirst();
        whatOfMenAndShirts();
        menAndShirtsThereAre();
        daysOfOneCall();
        rainBelow();
        wearEnds();
        lastToldAnew();
        seedGoesRound();
        ledgerFull();
        ledgerComesBack();
        runsBelow();
        hungEmptyAndFull();
        hungBytes();
        lawsJoined();
        liceHalved();
        handingsEmptyAndFull();
        handingsOfTheRest();
        dearestHanding();
        shortOnes();
        lotOfOneAndOfAll();
        truceOfFew();
        homeBytes();
        homeEnds();
        toreBounds();
        spiesBounds();
        linesBounds();
        blueBounds();
        traceBounds();
        actsRemembered();
        actsInARing();
        actsForgotten();
        images();
        counts();
        d.end();
    }

    private static ShirtWash full() {
        return Desk.wash("man 0 squad 0 tears 1 wish white", Desk.men(2, 4, 6, 8, 10, 12, 14, 16, 18), TEN_SHIRTS, TWO_SHIRTS);
    }

    private static int drawOf(int seed) {
        return Desk.draws(seed, 1)[0];
    }

    /** The least seed whose first draw is this one, modulo a number. */
    private static int seedWith(int draw, int modulo) {
        int seed = 0;
        while (drawOf(seed) % modulo != draw) {
            seed++;
        }
        return seed;
    }

    private static int tapeSize(ShirtWash w) {
        int size = 400;
        while (!w.end(size)) {
            size--;
        }
        return size;
    }

    // ---- 2, 3: "NONE, and none come, if it would have more than 400"; "false, and nothing happens, if it has fewer, or n is below 0"

    private static void tapeFull() {
        for (int cut = 379; cut <= 400; cut++) {
            ShirtWash w = new ShirtWash();
            for (int i = 0; i < 20; i++) {
                w.feed(i, i, i, i, i);
            }
            int left = cut;
            d.due("end(" + cut + ") of 400", true, () -> w.end(left));
            d.due("feed behind " + cut, cut <= 380 ? cut + 20 : -1, () -> w.feed(1, 2, 3, 4, 5));
            d.due("bytes behind it", cut <= 380 ? cut + 20 : cut, () -> tapeSize(w));
        }
    }

    private static void tapeCut() {
        ShirtWash w = new ShirtWash();
        for (int n : new int[] {-1, MIN, 1, 400, MAX}) {
            d.due("end(" + n + ") of an empty tape", false, () -> w.end(n));
        }
        d.due("end(0) of an empty tape", true, () -> w.end(0));
        w.feed(0x6e656172, 0x20317878, 0, 0, 0);
        for (int n : new int[] {-1, MIN, 21, 400, 401, MAX}) {
            d.due("end(" + n + ") of 20", false, () -> w.end(n));
            d.due("20 stay", 20, () -> tapeSize(w));
        }
        d.due("end(20)", true, () -> w.end(20));
        d.due("end(6)", true, () -> w.end(6));
        d.due("end(7) of 6", false, () -> w.end(7));
        d.due("the first 6 alone", 1, w::camp);
        d.due("used up", 0, () -> tapeSize(w));
    }

    private static void bytesOfNumbers() {
        ShirtWash w = Desk.wash(TEN_SHIRTS, TWO_SHIRTS);
        w.feed(0x61626364, 0x65666768, 0x696a6b6c, -1, 0x80000000);
        d.due("end(12)", true, () -> w.end(12));
        d.due("a to l, the highest first", 0, w::hang);
        w.feed(-1, -1, -1, -1, -1);
        w.end(1);
        d.dueThrow("a byte 255, not -1", ARGUMENT, w, w::hang);
        ShirtWash x = Desk.wash();
        x.feed(0x206e6561, 0x72203820, 0x20202020, 0x20202020, 0x20202020);
        x.camp();
        d.due("all twenty bytes", 8, () -> x.count(6));
    }

    /** "The TAPE has its first n bytes alone": those behind them, or of an earlier tape, count in no call. */
    private static void bytesThatWereCut() {
        ShirtWash w = Desk.wash(Desk.men(0, 9), "shirt red torn 0 lice 0 starch 0;shirt white torn 0 lice 0 starch 0;shirt white torn 0 lice 0 starch 0;runs 100");
        cut(w, "abacus", 2);
        d.due("a and b alone", 1, w::hang);
        w.undo();
        cut(w, "bacbac", 2);
        d.due("b and a alone", 1, w::hang);
        d.due("c stays", 0, () -> w.shirt(2, 0));
        cut(w, "1010", 2);
        d.due("two men told", 1, () -> w.home(0, 1));
        cut(w, "1010", 1);
        d.dueThrow("one man told", ARGUMENT, w, () -> w.home(0, 1));
        w.days(1);
        cut(w, "\0\0\0\0", 2);
        d.due("one wash told", 0, w::spies);
        cut(w, "near 12", 6);
        w.camp();
        d.due("near 1", 1, () -> w.count(6));
        cut(w, "near 3;near 4", 7);
        d.dueThrow("a line must come", ARGUMENT, w, w::camp);
        d.due("at the text's length", 7, w::fault);
        cut(w, "bars", 3);
        d.due("bar", 1, w::law);
        cut(w, "bars", 2);
        d.dueThrow("ba", ARGUMENT, w, w::law);
        d.due("is no word", 0, w::fault);
    }

    private static void cut(ShirtWash w, String text, int n) {
        Desk.tape(w, text);
        w.end(n);
    }

    // ---- Terms: "two men whose PLACES are at most NEAR apart (0 to 99; 1 at first), if they are two"

    private static void neighbours() {
        int[] apart = {0, 1, 2, 50, 98, 99};
        for (int near : new int[] {0, 1, 2, 49, 50, 98, 99}) {
            for (int a : apart) {
                ShirtWash w = Desk.wash(Desk.men(0, a), "near " + near);
                int want = a <= near ? 2 : 0;
                d.due("near " + near + ", " + a + " apart", want, () -> w.man(0, 5));
                ShirtWash x = Desk.wash(Desk.men(99, 99 - a), "near " + near);
                d.due("near " + near + ", " + a + " apart, the other way", want / 2, () -> x.man(1, 5));
            }
        }
        d.due("alone", 0, () -> Desk.wash(Desk.men(5), "near 99").man(0, 5));
        ShirtWash all = Desk.wash(Desk.men(0, 0, 0, 0, 0, 0, 0, 0, 0, 0), "near 0");
        d.due("ten at one place", 1023 - 1, () -> all.man(0, 5));
        d.due("but for himself", 1023 - 512, () -> all.man(9, 5));
        ShirtWash first = Desk.wash(Desk.men(5, 6, 7, 3));
        d.due("1 at first", 2, () -> first.man(0, 5));
    }

    private static void atFirst() {
        ShirtWash w = Desk.wash(Desk.men(0), Desk.shirts(0));
        int[] due = {1, 1, 2, -1, 0, 0, 1, 0, 50, 1, 1, 0, 0, 0};
        for (int i = 0; i < due.length; i++) {
            int what = i;
            d.due("count(" + i + ") at first", due[i], () -> w.count(what));
        }
        d.due("he wears none", -1, () -> w.man(0, 4));
        d.due("in the chest", -1, () -> w.shirt(0, 5));
        d.due("no last", -1, () -> w.shirt(0, 6));
        d.due("no ledger", -1, () -> w.ledger(0, 0));
        d.due("seed 1", 1, () -> w.seed(0));
    }

    // ---- 7, 8: "another what"

    private static void whatOfMenAndShirts() {
        ShirtWash w = Desk.wash(Desk.men(0), Desk.shirts(0));
        for (int what : new int[] {-1, 6, 7, 256, MIN, MAX}) {
            d.dueThrow("man(0, " + what + ")", ELEMENT, w, () -> w.man(0, what));
        }
        for (int what : new int[] {-1, 7, 8, 256, MIN, MAX}) {
            d.dueThrow("shirt(0, " + what + ")", ELEMENT, w, () -> w.shirt(0, what));
        }
    }

    // ---- "IndexOutOfBoundsException: there is no such man, SHIRT"

    private static void menAndShirtsThereAre() {
        noSuch(new ShirtWash(), new int[] {0, -1, 1, MIN, MAX}, new int[] {0, -1, 1, MIN, MAX});
        noSuch(Desk.wash(Desk.men(0), Desk.shirts(0)), new int[] {-1, 1, MIN, MAX, MIN + 1}, new int[] {-1, 1, MIN, MAX, MAX - 1});
        noSuch(full(), new int[] {-1, 10, MIN, MAX, 858993460}, new int[] {-1, 12, MIN, MAX, 715827883});
        ShirtWash w = full();
        d.due("the last man", 18, () -> w.man(9, 0));
        d.due("the last shirt", 11, () -> w.shirt(11, 4));
        d.due("both", false, () -> w.barred(9, 11));
        d.due("their cost", 0, () -> w.cost(9, 11));
        d.due("given", 0, () -> w.give(9, 11));
        d.due("taken", 11, () -> w.take(9));
        d.due("planned", 9, () -> w.plan(9, false));
        d.due("in the ledger", -1, () -> w.ledger(0, 11));
    }

    private static void noSuch(ShirtWash w, int[] men, int[] shirts) {
        for (int m : men) {
            d.dueThrow("man " + m, INDEX, w, () -> w.man(m, 9));
            d.dueThrow("barred " + m, INDEX, w, () -> w.barred(m, 0));
            d.dueThrow("cost " + m, INDEX, w, () -> w.cost(m, 0));
            d.dueThrow("give " + m, INDEX, w, () -> w.give(m, 0));
            d.dueThrow("take " + m, INDEX, w, () -> w.take(m));
            d.dueThrow("plan " + m, INDEX, w, () -> w.plan(m, true));
            d.dueThrow("home from " + m, INDEX, w, () -> w.home(m, 0));
            d.dueThrow("home to " + m, INDEX, w, () -> w.home(0, m));
        }
        for (int h : shirts) {
            d.dueThrow("shirt " + h, INDEX, w, () -> w.shirt(h, 9));
            d.dueThrow("barred of " + h, INDEX, w, () -> w.barred(0, h));
            d.dueThrow("cost of " + h, INDEX, w, () -> w.cost(0, h));
            d.dueThrow("give of " + h, INDEX, w, () -> w.give(0, h));
            d.dueThrow("ledger of " + h, INDEX, w, () -> w.ledger(-1, h));
            d.dueThrow("buttons of " + h, INDEX, w, () -> Desk.buttons(w, h, 0));
            d.dueThrow("buttons and " + h, INDEX, w, () -> Desk.buttons(w, 0, h));
            d.dueThrow("buttons twice " + h, INDEX, w, () -> Desk.buttons(w, h, h));
        }
    }

    // ---- 12: "So many DAYS more (1 to 60)"

    private static void daysOfOneCall() {
        ShirtWash w = Desk.wash(Desk.men(0), Desk.shirts(5), "wears 0 0");
        for (int n : NO_DAYS) {
            d.dueThrow("days(" + n + ")", ARGUMENT, w, () -> w.days(n));
        }
        d.due("days(1)", 1, () -> w.days(1));
        d.due("days(59)", 59, () -> w.days(59));
        d.due("days(60)", 60, () -> w.days(60));
        d.due("day", 120, () -> w.count(4));
        d.due("washes", 120, () -> w.count(5));
        d.due("one act a call", 3, () -> w.count(13));
        d.due("a day draws once", Desk.draws(1, 120)[119], () -> w.seed(1) >>> 16 & 0x7fff);
    }

    // ---- 2: "DRAW modulo 100 below RAINY: it rains, nothing else"

    private static void rainBelow() {
        for (int rainy : new int[] {0, 1, 2, 49, 50, 99, 100}) {
            for (int draw : new int[] {0, rainy - 1, rainy, 99}) {
                if (draw >= 0 && draw < 100) {
                    ShirtWash w = Desk.wash(Desk.men(0), Desk.shirts(5), "wears 0 0;rainy " + rainy);
                    w.seed(seedWith(draw, 100));
                    boolean rains = draw < rainy;
                    d.due("rainy " + rainy + ", draw " + draw, rains ? 0 : 1, () -> w.days(1));
                    d.due("he wears it still", rains ? 0 : -1, () -> w.man(0, 4));
                    d.due("washes", rains ? 0 : 1, () -> w.count(5));
                    d.due("starch", rains ? 5 : 4, () -> w.shirt(0, 3));
                    d.due("last", rains ? -1 : 0, () -> w.shirt(0, 6));
                    d.due("day", 1, () -> w.count(4));
                }
            }
        }
    }

    // ---- 2: "(999 at most)", "1 less (0 at least)", "3 more (99 at most)"

    private static void wearEnds() {
        int[][] ends = {{0, 0, 0, 0, 0, 3, 0}, {9, 990, 96, 1, 999, 99, 0}, {9, 991, 97, 0, 999, 99, 0}, {9, 989, 95, 9, 998, 98, 8},
            {0, 999, 99, 2, 999, 99, 1}, {9, 999, 98, 1, 999, 99, 0}, {1, 998, 0, 0, 999, 3, 0}, {1, 999, 0, 0, 999, 3, 0}};
        for (int[] e : ends) {
            ShirtWash w = Desk.wash("man 0 squad 0 tears " + e[0] + " wish red;shirt red torn " + e[1] + " lice " + e[2] + " starch " + e[3]
                    + ";shirt red torn " + e[1] + " lice " + e[2] + " starch " + e[3] + ";wears 0 0");
            w.days(1);
            for (int what = 1; what <= 3; what++) {
                int column = what;
                d.due("worn, what " + what + " of " + e[what], e[3 + what], () -> w.shirt(0, column));
                d.due("in the chest, what " + what, e[what], () -> w.shirt(1, column));
            }
        }
    }

    // ---- 2: "LAST is told anew (of SHIRTS in THE CHEST: none)"

    private static void lastToldAnew() {
        ShirtWash w = Desk.wash(Desk.men(0, 50), Desk.shirts(0, 0), "wears 0 0");
        w.days(1);
        d.due("by whom it was worn", 0, () -> w.shirt(0, 6));
        d.due("the other was in the chest", -1, () -> w.shirt(1, 6));
        w.give(1, 1);
        d.due("giving leaves it", -1, () -> w.shirt(1, 6));
        w.days(1);
        d.due("none, of one in the chest", -1, () -> w.shirt(0, 6));
        d.due("of the other", 1, () -> w.shirt(1, 6));
        Desk.camp(w, "rainy 100");
        w.give(0, 0);
        w.days(3);
        d.due("rain leaves it", 1, () -> w.shirt(1, 6));
        d.due("rain leaves it", -1, () -> w.shirt(0, 6));
    }

    // ---- 2: "SEED is 1103515245 times SEED and 12345, as an int that goes round; bits 16 to 30"

    private static void seedGoesRound() {
        int[] seeds = {0, 1, 2, -1, MIN, MAX, MIN + 1, MAX - 1, 1 << 30, -12345, 0x7fff0000, 0x80008000, 65535, 65536};
        for (int seed : seeds) {
            ShirtWash w = Desk.wash("shirt red torn 999 lice 0 starch 0");
            w.seed(seed);
            int next = (int) (1103515245L * seed + 12345L);
            d.due("truce by seed " + seed, (next >> 16 & 0x7fff) % 10, w::truce);
            d.due("seed behind " + seed, next, () -> w.seed(seed));
        }
        ShirtWash w = full();
        for (int i = 0; i < 40; i++) {
            int seed = 1 << 31 | i * 77777;
            w.seed(seed);
            w.lot();
            int want = drawOf(seed) % 12;
            d.due("lot by a seed below 0", want, () -> w.man(0, 4));
            w.undo();
        }
        d.due("seed answers what it was", 1 << 31 | 39 * 77777, () -> w.seed(5));
        d.due("and it is the new one", 5, () -> w.seed(6));
    }

    // ---- 2, 11: "LEDGER: of the latest 30 WASHES by whom each SHIRT was worn then (none)"

    private static ShirtWash washed(int washes) {
        ShirtWash w = Desk.wash(TEN_MEN, TWO_SHIRTS);
        Desk.law(w, "");
        for (int i = 0; i < washes; i++) {
            w.give(i % 10, i % 2);
            w.days(1);
        }
        return w;
    }

    private static void ledgerFull() {
        for (int washes : new int[] {0, 1, 2, 29, 30, 31, 32, 45, 60, 61}) {
            ShirtWash w = washed(washes);
            for (int ago : new int[] {0, 1, 2, 28, 29}) {
                int wash = washes - 1 - ago;
                boolean there = wash >= 0;
                d.due(washes + " washes, " + ago + " ago, 0", there && wash % 2 == 0 ? wash % 10 : -1, () -> w.ledger(ago, 0));
                d.due(washes + " washes, " + ago + " ago, 1", there && wash % 2 == 1 ? wash % 10 : -1, () -> w.ledger(ago, 1));
            }
            for (int ago : new int[] {-1, 30, 31, MIN, MAX}) {
                d.due(washes + " washes, " + ago + " ago", -1, () -> w.ledger(ago, 0));
                d.due(washes + " washes, " + ago + " ago", -1, () -> w.ledger(ago, 1));
            }
        }
        ShirtWash late = washed(30);
        late.days(60);
        for (int ago : new int[] {0, 29}) {
            d.due("60 washes of nobody", -1, () -> late.ledger(ago, 0));
        }
        ShirtWash widest = full();
        Desk.camp(widest, "wears 9 11");
        widest.days(1);
        d.due("the last man in the last shirt", 9, () -> widest.ledger(0, 11));
        d.due("and in no other", -1, () -> widest.ledger(0, 10));
    }

    private static void ledgerComesBack() {
        ShirtWash w = washed(30);
        d.due("the first wash", 0, () -> w.ledger(29, 0));
        w.days(60);
        d.due("it went", -1, () -> w.ledger(29, 0));
        w.undo();
        d.due("undone, it is there", 0, () -> w.ledger(29, 0));
        d.due("and the latest", 9, () -> w.ledger(0, 1));
        w.image();
        w.days(60);
        w.back();
        d.due("gone back, it is there", 0, () -> w.ledger(29, 0));
        d.due("30 rows can be told", 0, () -> Desk.spies(w, new int[30]));
        d.dueThrow("31 cannot", ARGUMENT, w, () -> Desk.spies(w, new int[31]));
    }

    // ---- 2: "DRAW modulo 100 below RUNS for each such"

    private static void runsBelow() {
        for (int runs : new int[] {0, 1, 50, 99, 100}) {
            for (int draw : new int[] {0, runs - 1, runs, 99}) {
                if (draw >= 0 && draw < 100) {
                    ShirtWash w = Desk.wash("shirt white torn 0 lice 0 starch 0;shirt red torn 0 lice 0 starch 0;runs " + runs);
                    w.seed(seedWith(draw, 100));
                    boolean changes = draw < runs;
                    d.due("runs " + runs + ", draw " + draw, changes ? 1 : 0, () -> Desk.hang(w, "ab"));
                    d.due("its colour", changes ? 2 : 0, () -> w.shirt(0, 0));
                    d.due("the red one stays", 2, () -> w.shirt(1, 0));
                }
            }
        }
        ShirtWash first = Desk.wash("shirt white torn 0 lice 0 starch 0;shirt blue torn 0 lice 0 starch 0");
        first.seed(seedWith(49, 100));
        d.due("50 at first: 49", 1, () -> Desk.hang(first, "ba"));
        first.undo();
        first.seed(seedWith(50, 100));
        d.due("50 at first: 50", 0, () -> Desk.hang(first, "ba"));
    }

    private static void hungEmptyAndFull() {
        ShirtWash w = Desk.wash("shirt blue torn 0 lice 0 starch 0", TEN_SHIRTS, "shirt white torn 0 lice 0 starch 0;runs 100");
        d.due("nothing is hung", 0, () -> Desk.hang(w, ""));
        d.due("nothing is drawn", 1, () -> w.seed(1));
        d.due("one alone", 0, () -> Desk.hang(w, "b"));
        d.due("the blue one alone", 0, () -> Desk.hang(w, "a"));
        d.due("two white ones", 0, () -> Desk.hang(w, "bc"));
        d.due("nothing was drawn", 1, () -> w.seed(1));
        d.due("all twelve, from the first on", 11, () -> Desk.hang(w, "abcdefghijkl"));
        d.due("11 draws", Desk.draws(1, 11)[10], () -> w.seed(1) >>> 16 & 0x7fff);
        w.undo();
        d.due("all twelve, the blue one last", 1, () -> Desk.hang(w, "lkjihgfedcba"));
        d.due("one draw", drawOf(1), () -> w.seed(1) >>> 16 & 0x7fff);
        w.undo();
        d.due("the first and the last are not beside one another", 1, () -> Desk.hang(w, "bcdefghijkla"));
        d.due("b stays", 0, () -> w.shirt(1, 0));
        w.undo();
        d.due("in the midst: e ahead of it, then all behind it", 7, () -> Desk.hang(w, "beaghijkl"));
    }

    private static void hungBytes() {
        ShirtWash w = Desk.wash(Desk.men(0), Desk.shirts(0, 0, 0), "wears 0 1");
        for (int sign : new int[] {0, 48, 65, 96, 100, 101, 122, 128, 255}) {
            d.dueThrowOf("" + (char) sign, "hang", ARGUMENT, w, w::hang);
            d.dueThrowOf("b" + (char) sign, "hang, one worn", ARGUMENT, w, w::hang);
        }
        d.dueThrowOf("aa", "twice", ARGUMENT, w, w::hang);
        d.dueThrowOf("aca", "twice", ARGUMENT, w, w::hang);
        d.dueThrowOf("cc", "twice", ARGUMENT, w, w::hang);
        d.dueThrowOf("bab", "twice, and worn", ARGUMENT, w, w::hang);
        d.dueThrowOf("b", "worn", STATE, w, w::hang);
        d.dueThrowOf("acb", "worn", STATE, w, w::hang);
        d.dueThrowOf("a".repeat(400), "a full tape", ARGUMENT, w, w::hang);
        d.due("the first and the last", 0, () -> Desk.hang(w, "ca"));
        ShirtWash none = new ShirtWash();
        d.dueThrowOf("a", "no shirt at all", ARGUMENT, none, none::hang);
        d.due("nothing of nothing", 0, () -> Desk.hang(none, ""));
    }

    // ---- Terms: "C: ALL { or ALL }; ALL: ATOM { and ATOM }; ATOM: not ATOM | ( C ) | same | neighbour | wished | .."

    private static void lawsJoined() {
        ShirtWash w = Desk.wash(Desk.men(0, 1), Desk.shirts(0, 0), "wears 0 0;wears 1 1");
        w.days(1);
        // of man 0 and shirt 0: same, wished, not neighbour
        String[] holds = {"same", "wished", "1<2", "not neighbour", "(same)", "not 2<1"};
        String[] fails = {"neighbour", "not same", "2<1", "1<1", "1>1", "(not wished)"};
        for (int i = 0; i < 36; i++) {
            String yes = holds[i % 6];
            String also = holds[i / 6];
            String no = fails[i % 6];
            String never = fails[i / 6];
            joined(w, true, yes + " and " + also);
            joined(w, false, yes + " and " + never);
            joined(w, false, never + " and " + yes);
            joined(w, false, no + " and " + never);
            joined(w, true, yes + " or " + also);
            joined(w, true, yes + " or " + never);
            joined(w, true, never + " or " + yes);
            joined(w, false, no + " or " + never);
            joined(w, true, yes + " or " + no + " and " + never);
            joined(w, false, "(" + yes + " or " + also + ") and " + no);
            joined(w, false, "not " + yes + " and " + also);
            joined(w, true, "not (" + yes + " and " + no + ") and not " + never);
        }
    }

    private static void joined(ShirtWash w, boolean want, String condition) {
        Desk.law(w, "bar if " + condition);
        d.due("bar if " + condition, want, () -> w.barred(0, 0));
    }

    // ---- 2: "(LICE are halved, rounded down)"

    private static void liceHalved() {
        for (int lice : new int[] {0, 1, 2, 3, 98, 99}) {
            String camp = Desk.men(0) + ";shirt red torn 0 lice " + lice + " starch 0";
            d.due("given with " + lice, lice / 2, () -> Desk.wash(camp).give(0, 0));
            ShirtWash hand = Desk.wash(camp);
            hand.hand(true);
            d.due("handed with " + lice, lice / 2, () -> hand.shirt(0, 2));
            ShirtWash lot = Desk.wash(camp);
            lot.lot();
            d.due("by lot with " + lice, lice / 2, () -> lot.shirt(0, 2));
            ShirtWash told = Desk.wash(camp + ";wears 0 0");
            d.due("told with " + lice, lice, () -> told.shirt(0, 2));
            told.take(0);
            d.due("taken with " + lice, lice, () -> told.shirt(0, 2));
        }
    }

    // ---- 2, 18 to 22: handings

    private static void noHanding(ShirtWash w, int lack) {
        d.due("no way", 0, w::ways);
        d.due("no least", -1, w::least);
        d.due("lack", lack, w::lack);
        d.due("no plan", -1, () -> w.plan(0, false));
        d.due("no cheap plan", -1, () -> w.plan(0, true));
        d.dueThrow("hand(false)", STATE, w, () -> w.hand(false));
        d.dueThrow("hand(true)", STATE, w, () -> w.hand(true));
    }

    private static void emptyHanding(ShirtWash w) {
        d.due("one way", 1, w::ways);
        d.due("it costs nothing", 0, w::least);
        d.due("none lacks", 0, w::lack);
        d.due("none is given", 0, () -> w.hand(false));
        d.due("none is given", 0, () -> w.hand(true));
        d.due("none by lot", 0, w::lot);
        d.due("three acts", 3, () -> w.count(13));
    }

    private static void handingsEmptyAndFull() {
        emptyHanding(new ShirtWash());
        emptyHanding(Desk.wash(TEN_SHIRTS, TWO_SHIRTS));
        emptyHanding(Desk.wash(Desk.men(0), Desk.shirts(0), "wears 0 0"));
        emptyHanding(Desk.wash(Desk.men(0), Desk.shirts(0, 0), "wears 0 0"));
        d.due("he wears one: no plan", -1, () -> Desk.wash(Desk.men(0), Desk.shirts(0, 0), "wears 0 0").plan(0, true));
        noHanding(Desk.wash(Desk.men(0)), 1);
        noHanding(Desk.wash(TEN_MEN), 1);
        noHanding(Desk.wash(TEN_MEN, Desk.shirts(0, 0, 0, 0, 0, 0, 0, 0, 0)), 1023);
        noHanding(Desk.wash(Desk.men(0, 5), Desk.shirts(0)), 3);
        ShirtWash ten = Desk.wash(TEN_MEN, TEN_SHIRTS);
        d.due("10 of 10", 3628800, ten::ways);
        d.due("as many as there are", 0, ten::lack);
        ShirtWash all = full();
        d.due("10 of 12", 239500800, all::ways);
        d.due("10 are given", 10, () -> all.hand(false));
        for (int man = 0; man < 10; man++) {
            int same = man;
            d.due("by numbers", same, () -> all.man(same, 4));
        }
        d.due("two in the chest", 2, () -> all.count(9));
        all.undo();
        Desk.law(all, "bar if button < 2");
        d.due("the last shirts", 10, () -> all.hand(true));
        d.due("the last man has the last", 11, () -> all.man(9, 4));
    }

    /** Who wears one and what is worn have no part in a handing, in the fullest camp, too. */
    private static void handingsOfTheRest() {
        ShirtWash w = full();
        w.give(9, 11);
        d.due("9 of 11", 19958400, w::ways);
        d.due("the rest, in order", 8, () -> w.plan(8, false));
        d.due("he has one", -1, () -> w.plan(9, false));
        w.give(0, 0);
        d.due("8 of 10", 1814400, w::ways);
        d.due("man 1 gets 1", 1, () -> w.plan(1, true));
        d.due("8 are given", 8, () -> w.hand(true));
        d.due("two in the chest", 2, () -> w.count(9));
        w.undo();
        d.due("8 by lot", 8, w::lot);
        d.due("nobody is left", 1, w::ways);
    }

    private static void dearestHanding() {
        ShirtWash w = full();
        Desk.law(w, "cost 999" + ";cost 999".repeat(11));
        d.due("12 lines of 999", 11988, () -> w.cost(9, 11));
        d.due("ten times", 119880, w::least);
        d.due("of several the first", 0, () -> w.plan(0, true));
        d.due("of several the first", 9, () -> w.plan(9, true));
        Desk.law(w, "cost 1 if button < 2");
        d.due("two are dear", 0, w::least);
        d.due("cheapest leaves them", 2, () -> w.plan(0, true));
        d.due("first does not", 0, () -> w.plan(0, false));
        Desk.law(w, "bar if place < 1 and button < 11;bar if place > 0 and place < 4 and button < 10;cost 0");
        d.due("man 0 has one way", 11, () -> w.plan(0, false));
        d.due("man 1 has what is left", 10, () -> w.plan(1, false));
        d.due("man 2 the least", 0, () -> w.plan(2, false));
    }

    // ---- 2: "the fewest men .. who together can be given fewer SHIRTS than they are: of several the least as bits"

    private static void shortOnes() {
        ShirtWash w = Desk.wash(Desk.men(0, 10, 20, 30), Desk.shirts(0, 0, 0, 0, 0));
        Desk.law(w, "bar if (place < 1 or place > 29) and button > 0;bar if place > 0 and place < 30 and not (button > 0 and button < 2)");
        d.due("1 and 2 are less as bits than 0 and 3", 6, w::lack);
        Desk.law(w, "bar if place < 21 and button > 1;bar if place > 29");
        d.due("one man ahead of three", 8, w::lack);
        Desk.law(w, "bar if place < 21 and button > 1");
        d.due("three for two shirts", 7, w::lack);
        Desk.law(w, "bar if button > 2");
        d.due("four for three shirts", 15, w::lack);
        Desk.law(w, "bar if button > 3");
        d.due("four for four", 0, w::lack);
        Desk.law(w, "bar");
        d.due("each alone: the least", 1, w::lack);
        w.truce();
        Desk.law(w, "");
        w.give(0, 4);
        Desk.law(w, "bar");
        d.due("who wears one is not short", 2, w::lack);
    }

    // ---- 2: "DRAW modulo how many SHIRTS of THE CHEST he can be given (none: he gets none, nothing is drawn)"

    private static void lotOfOneAndOfAll() {
        ShirtWash one = Desk.wash(Desk.men(0), Desk.shirts(0));
        d.due("one for one", 1, one::lot);
        d.due("is drawn all the same", drawOf(1), () -> one.seed(1) >>> 16 & 0x7fff);
        d.due("nobody is left", 0, one::lot);
        d.due("nothing is drawn", 1, () -> one.seed(1));
        ShirtWash bare = Desk.wash(TEN_MEN);
        d.due("no shirt", 0, bare::lot);
        d.due("nothing is drawn", 1, () -> bare.seed(1));
        d.due("an act", 1, () -> bare.count(13));
        ShirtWash few = Desk.wash(TEN_MEN, TWO_SHIRTS);
        d.due("two for ten", 2, few::lot);
        d.due("two draws", Desk.draws(1, 2)[1], () -> few.seed(1) >>> 16 & 0x7fff);
        d.due("eight have none", 8, () -> few.count(10));
        ShirtWash all = full();
        d.due("ten of twelve", 10, all::lot);
        d.due("ten draws", Desk.draws(1, 10)[9], () -> all.seed(1) >>> 16 & 0x7fff);
        for (int draw : new int[] {0, 1, 10, 11}) {
            ShirtWash w = full();
            w.seed(seedWith(draw, 12));
            w.lot();
            d.due("that one, by number", draw, () -> w.man(0, 4));
        }
    }

    // ---- 2: "DRAW modulo 10 of its TORN are darned (as many as there are)"

    private static void truceOfFew() {
        for (int draw : new int[] {0, 1, 5, 9}) {
            for (int torn : new int[] {0, 1, 4, 5, 6, 8, 9, 10, 999}) {
                ShirtWash w = Desk.wash("shirt red torn " + torn + " lice 0 starch 0");
                w.seed(seedWith(draw, 10));
                int darned = Math.min(draw, torn);
                d.due("torn " + torn + ", draw " + draw, darned, w::truce);
                d.due("torn still", torn - darned, () -> w.shirt(0, 1));
            }
        }
        ShirtWash none = new ShirtWash();
        d.due("no shirt", 0, none::truce);
        d.due("nothing is drawn", 1, () -> none.seed(1));
        d.due("an act", 1, () -> none.count(13));
        ShirtWash whole = full();
        d.due("none is torn", 0, whole::truce);
        d.due("twelve draws all the same", Desk.draws(1, 12)[11], () -> whole.seed(1) >>> 16 & 0x7fff);
    }

    // ---- 24: "of each man a byte, 48 and the number of a man"

    private static void homeBytes() {
        ShirtWash w = Desk.wash(Desk.men(0, 10, 20));
        for (String told : new String[] {"", "0", "01", "0120", "012012012012", "013", "/12", "01/", "312", "01\0", "01\u00ff", "0 1", "abc"}) {
            d.dueThrowOf(told, "home", ARGUMENT, w, () -> w.home(0, 0));
            d.dueThrowOf(told, "home of nobody", INDEX, w, () -> w.home(3, 0));
            d.dueThrowOf(told, "home to nobody", INDEX, w, () -> w.home(0, -1));
        }
        d.due("the first and the last", 1, () -> Desk.home(w, "222", 0, 2));
        d.due("used up", 0, () -> tapeSize(w));
        ShirtWash one = Desk.wash(Desk.men(0));
        d.due("one man", 0, () -> Desk.home(one, "0", 0, 0));
        ShirtWash none = new ShirtWash();
        d.dueThrowOf("", "nobody at all", INDEX, none, () -> none.home(0, 0));
        ShirtWash ten = Desk.wash(TEN_MEN);
        d.due("9 is a man", 1, () -> Desk.home(ten, "9999999999", 0, 9));
        d.dueThrowOf("999999999:", "10 is none", ARGUMENT, ten, () -> ten.home(0, 9));
        d.dueThrowOf("9".repeat(400), "a full tape", ARGUMENT, ten, () -> ten.home(0, 9));
    }

    // ---- 24: "(0, if it is; passing ahead of the first WASH, too); none within 30 WASHES"

    private static void homeEnds() {
        ShirtWash w = Desk.wash(TEN_MEN);
        d.due("it is with him", 0, () -> Desk.home(w, "0000000000", 9, 9));
        for (int to = 0; to < 10; to++) {
            int last = to;
            d.due("round, to " + to, last, () -> Desk.home(w, "1234567890", 0, last));
        }
        d.due("never", -1, () -> Desk.home(w, "0123456789", 0, 9));
        d.due("never, in another round", -1, () -> Desk.home(w, "1034567892", 0, 9));
        d.due("never, to the first man", -1, () -> Desk.home(w, "0123456789", 9, 0));
        Desk.camp(w, "near 2");
        d.due("a neighbour has it without a wash", 0, () -> Desk.home(w, "0123456789", 0, 1));
        d.due("once between two washes", 1, () -> Desk.home(w, "0123456789", 0, 2));
        d.due("eight washes, nine passes", 8, () -> Desk.home(w, "0123456789", 0, 9));
        d.due("it may stay where it comes to", 1, () -> Desk.home(w, "5555555555", 9, 5));
        d.due("or be passed behind the wash", 1, () -> Desk.home(w, "5555555555", 9, 6));
        d.due("and no farther", -1, () -> Desk.home(w, "5555555555", 9, 7));
        ShirtWash pair = Desk.wash(Desk.men(0, 1, 50, 60));
        d.due("not passed ahead of the wash", 1, () -> Desk.home(pair, "2323", 0, 2));
        d.due("passed ahead of the wash", 1, () -> Desk.home(pair, "2323", 0, 3));
        d.due("not passed, from the other", 1, () -> Desk.home(pair, "2323", 1, 3));
        d.due("passed, from the other", 1, () -> Desk.home(pair, "2323", 1, 2));
    }

    // ---- 25: "a SHIRT got so many TEARS in K WASHES (1 to 6)"; "TEARS are below 0, or K is none"

    private static void toreBounds() {
        ShirtWash w = Desk.wash("man 0 squad 0 tears 9 wish red;man 5 squad 0 tears 0 wish red");
        for (int k = 1; k <= 6; k++) {
            int washes = k;
            int most = 9 * ((k + 1) / 2);
            d.due("the most in " + k, k % 2 == 0 ? 2 : 1, () -> w.tore(most, washes, 0));
            d.due("one more", 0, () -> w.tore(most + 1, washes, 0));
            d.due("one more, men in all", 0, () -> w.tore(most + 1, washes, 1));
            d.due("one more, men in any", 0, () -> w.tore(most + 1, washes, 2));
            d.due("none in " + k, k == 1 ? 1 : 0, () -> w.tore(0, washes, 0));
        }
        for (int k : new int[] {0, -1, 7, MIN, MAX}) {
            d.dueThrow("k " + k, ARGUMENT, w, () -> w.tore(0, k, 0));
            d.dueThrow("k " + k + " and what 3", ELEMENT, w, () -> w.tore(0, k, 3));
        }
        for (int tears : new int[] {-1, MIN}) {
            d.dueThrow("tears " + tears, ARGUMENT, w, () -> w.tore(tears, 1, 2));
            d.dueThrow("tears " + tears + " and what -1", ELEMENT, w, () -> w.tore(tears, 1, -1));
        }
        for (int what : new int[] {-1, 3, MIN, MAX}) {
            d.dueThrow("what " + what, ELEMENT, w, () -> w.tore(0, 1, what));
        }
        for (int tears : new int[] {54, 55, 56, 1000, MAX}) {
            d.due("tears " + tears, 0, () -> w.tore(tears, 6, 2));
        }
        for (int tears : new int[] {55, 56, MAX}) {
            d.due("tears " + tears + " in one wash", 0, () -> w.tore(tears, 1, 0));
            d.due("tears " + tears + " in two", 0, () -> w.tore(tears, 2, 0));
        }
        ShirtWash careful = Desk.wash("man 0 squad 0 tears 0 wish red;man 5 squad 0 tears 0 wish red");
        for (int k = 1; k <= 6; k++) {
            int washes = k;
            d.due("nobody tears, " + k, 2, () -> careful.tore(0, washes, 0));
            d.due("both in all but the first", k == 1 ? 0 : 3, () -> careful.tore(0, washes, 1));
            d.due("both in any", 3, () -> careful.tore(0, washes, 2));
            d.due("one tear", 0, () -> careful.tore(1, washes, 0));
        }
        d.due("one man, one wash", 1, () -> Desk.wash(Desk.men(0)).tore(1, 1, 1));
        d.due("one man, two washes", 0, () -> Desk.wash(Desk.men(0)).tore(2, 2, 0));
        d.due("two apart by near", 0, () -> Desk.wash(Desk.men(0, 4), "near 4").tore(2, 2, 0));
        d.due("and by one more", 2, () -> Desk.wash(Desk.men(0, 5), "near 4").tore(2, 2, 0));
        d.due("nobody", 0, () -> new ShirtWash().tore(0, 6, 0));
        d.due("ten of ten", 590490, () -> Desk.wash(TEN_MEN).tore(6, 6, 0));
    }

    // ---- 26: "more WASHES than there are in the LEDGER"; "of each WASH two bytes"

    private static void spiesBounds() {
        for (int washes : new int[] {0, 1, 2, 29, 30, 31, 45}) {
            ShirtWash w = washed(washes);
            int rows = Math.min(washes, 30);
            d.due("none told, " + washes, 0, () -> Desk.spies(w));
            d.due("all told, " + washes, 0, () -> Desk.spies(w, new int[rows]));
            d.dueThrow("one more told, " + washes, ARGUMENT, w, () -> Desk.spies(w, new int[rows + 1]));
            d.dueThrowOf("\0".repeat(2 * rows + 1), "an odd byte", ARGUMENT, w, w::spies);
            d.dueThrowOf("\0", "one byte", ARGUMENT, w, w::spies);
            int[] ironed = new int[rows];
            Arrays.fill(ironed, 3);
            d.due("all ironed, " + washes, washes >= 10 ? 1023 : (1 << washes) - 1, () -> Desk.spies(w, ironed));
        }
        ShirtWash late = washed(30);
        int[] last = new int[30];
        last[29] = 1;
        last[19] = 1;
        last[9] = 1;
        d.due("man 0, three times, up to the 30th", 1, () -> Desk.spies(late, last));
        last[29] = 0;
        d.due("but the 30th was not ironed", -1, () -> Desk.spies(late, last));
        d.dueThrowOf("\0".repeat(400), "a full tape", ARGUMENT, late, late::spies);
        ShirtWash wide = full();
        Desk.camp(wide, "wears 9 11;wears 0 0");
        wide.days(1);
        d.due("the last shirt", 512, () -> Desk.spies(wide, 0x800));
        d.due("all shirts", 513, () -> Desk.spies(wide, 0xfff));
        d.dueThrow("a bit of a 13th", ARGUMENT, wide, () -> Desk.spies(wide, 0x1000));
        d.dueThrow("the highest bit", ARGUMENT, wide, () -> Desk.spies(wide, 0x8000));
    }

    // ---- 27: "LINES of a LENGTH (1 to 99)"; "none, if one does not fit"

    private static void linesBounds() {
        ShirtWash w = Desk.wash(Desk.men(0), Desk.shirts(0, 9), "wears 0 1");
        for (int length : new int[] {0, -1, 100, 101, MIN, MAX}) {
            d.dueThrow("lines(" + length + ")", ARGUMENT, w, () -> w.lines(length));
        }
        d.due("it takes 1", 1, () -> w.lines(1));
        d.due("on 99", 1, () -> w.lines(99));
        w.take(0);
        d.due("one takes 10", -1, () -> w.lines(9));
        d.due("10 holds it", 2, () -> w.lines(10));
        d.due("11 holds both", 1, () -> w.lines(11));
        d.due("no shirt", 0, () -> new ShirtWash().lines(1));
        d.due("no shirt", 0, () -> new ShirtWash().lines(99));
        ShirtWash mixed = Desk.wash("shirt white torn 0 lice 0 starch 0;shirt blue torn 0 lice 0 starch 9;shirt red torn 0 lice 0 starch 0");
        d.due("the blue one does not fit", -1, () -> mixed.lines(9));
        d.due("blue, red, white", 3, () -> mixed.lines(10));
        d.due("blue with red, white", 2, () -> mixed.lines(11));
        d.due("white is apart", 2, () -> mixed.lines(99));
        ShirtWash white = Desk.wash("shirt white torn 0 lice 0 starch 9;shirt blue torn 0 lice 0 starch 0");
        d.due("the white one does not fit", -1, () -> white.lines(9));
        ShirtWash all = Desk.wash(Desk.shirts(9, 9, 9, 9, 9, 9, 9, 9, 9, 9), Desk.shirts(8, 9));
        d.due("99 on the first, 20 on the second", 2, () -> all.lines(99));
        ShirtWash ones = full();
        d.due("twelve of 1 on 12", 1, () -> ones.lines(12));
        d.due("twelve of 1 on 11", 2, () -> ones.lines(11));
        d.due("twelve of 1 on 1", 12, () -> ones.lines(1));
    }

    // ---- 28: "hung so N times (1 to 9)"; "a COLOUR (NONE to 2)"; "rounded down at each"

    private static void blueBounds() {
        for (int runs : new int[] {0, 1, 7, 50, 99, 100}) {
            ShirtWash w = Desk.wash("runs " + runs);
            for (int n = 1; n <= 9; n++) {
                for (int ahead = -1; ahead <= 2; ahead++) {
                    for (int behind = -1; behind <= 2; behind++) {
                        long odds = 1000000000L;
                        for (int i = 0; i < n; i++) {
                            odds = ahead > 0 ? odds * (100 - runs) / 100 : odds;
                            odds = behind > 0 ? odds * (100 - runs) / 100 : odds;
                        }
                        int one = ahead;
                        int other = behind;
                        int times = n;
                        d.due("runs " + runs + ": blue(" + ahead + ", " + behind + ", " + n + ")", odds, () -> w.blue(one, other, times));
                    }
                }
            }
        }
        ShirtWash w = new ShirtWash();
        for (int colour : new int[] {-2, 3, MIN, MAX}) {
            d.dueThrow("ahead " + colour, ARGUMENT, w, () -> w.blue(colour, 0, 1));
            d.dueThrow("behind " + colour, ARGUMENT, w, () -> w.blue(0, colour, 1));
        }
        for (int n : new int[] {0, -1, 10, 11, MIN, MAX}) {
            d.dueThrow("n " + n, ARGUMENT, w, () -> w.blue(0, 0, n));
        }
        d.due("rounded down at each: 99 of 100, 18 times", 834513755, () -> Desk.wash("runs 1").blue(1, 2, 9));
    }

    // ---- 29: "how many different men wore its SHIRT by the LEDGER"; "there is no such BUTTON"

    private static void traceBounds() {
        ShirtWash none = new ShirtWash();
        for (int button : new int[] {0, -1, 1, MIN, MAX}) {
            d.dueThrow("no shirt: trace(" + button + ")", ARGUMENT, none, () -> none.trace(button));
        }
        ShirtWash all = full();
        d.due("the last button", 0, () -> all.trace(11));
        for (int button : new int[] {-1, 12, MIN, MAX}) {
            d.dueThrow("trace(" + button + ")", ARGUMENT, all, () -> all.trace(button));
        }
        for (int i = 0; i < 30; i++) {
            all.give(Math.min(i, 9), 11);
            all.days(1);
        }
        d.due("ten different men in 30 washes", 10, () -> all.trace(11));
        all.buttons(11, 0);
        d.due("the button went", 0, () -> all.trace(11));
        d.due("to the first shirt's", 10, () -> all.trace(0));
        all.days(1);
        d.due("the first man is out of the 30", 9, () -> all.trace(0));
        all.undo();
        d.due("undone, he is in them", 10, () -> all.trace(0));
        all.days(60);
        d.due("nobody wore it in 30 washes", 0, () -> all.trace(0));
    }

    // ---- 31: "(12 are remembered)"

    private static void actsRemembered() {
        for (int acts : new int[] {0, 1, 2, 11, 12, 13, 14, 24, 25, 40}) {
            ShirtWash w = new ShirtWash();
            for (int i = 0; i < acts; i++) {
                w.days(1);
            }
            int can = Math.min(acts, 12);
            d.due("of " + acts, can, () -> w.count(13));
            for (int i = 1; i <= can; i++) {
                int day = acts - i;
                d.due("undo " + i + " of " + acts, true, w::undo);
                d.due("day", day, () -> w.count(4));
                d.due("left", can - i, () -> w.count(13));
            }
            d.due("no more", false, w::undo);
            d.due("nothing happens", acts - can, () -> w.count(4));
            d.due("none left", 0, () -> w.count(13));
        }
    }

    private static void actsInARing() {
        ShirtWash w = new ShirtWash();
        List<Integer> days = new ArrayList<>();
        int[] turns = {5, -3, 12, -7, 9, -12, 4, -2, 30, -1, 1, -13, 2, -5};
        for (int turn : turns) {
            for (int i = 0; i < turn; i++) {
                days.add(w.count(4));
                w.days(1 + i % 3);
                if (days.size() > 12) days.remove(0);
            }
            for (int i = 0; i < -turn; i++) {
                boolean can = !days.isEmpty();
                int day = can ? days.remove(days.size() - 1) : w.count(4);
                d.due("undo in a ring", can, w::undo);
                d.due("day in a ring", day, () -> w.count(4));
            }
            d.due("acts in a ring", days.size(), () -> w.count(13));
        }
    }

    // ---- 3: "A text, going back: none are remembered"

    private static void actsForgotten() {
        for (int acts : new int[] {1, 12, 13}) {
            ShirtWash w = new ShirtWash();
            w.image();
            for (int kind = 0; kind < 5; kind++) {
                for (int i = 0; i < acts; i++) {
                    w.truce();
                }
                if (kind == 0) Desk.camp(w, "");
                else if (kind == 1) Desk.law(w, "");
                else if (kind == 2) w.back();
                else if (kind == 3) Desk.camp(w, "near 3");
                else Desk.law(w, "bar");
                d.due("none are remembered", 0, () -> w.count(13));
                d.due("nothing to undo", false, w::undo);
            }
            w.truce();
            d.due("but the next act is", true, w::undo);
        }
    }

    // ---- 32, 33: "THE IMAGE (one) of all may be kept, and gone back to"; "false, and nothing happens, if none was kept"

    private static void images() {
        ShirtWash w = Desk.wash(Desk.men(0, 9), Desk.shirts(1, 2));
        w.lot();
        String now = Desk.all(w);
        d.due("none was kept", false, w::back);
        d.due("nothing happens", now, () -> Desk.all(w));
        w.seed(77);
        w.image();
        w.seed(78);
        w.undo();
        d.due("undo leaves the image", true, w::back);
        d.due("seed is gone back to", 77, () -> w.seed(77));
        d.due("what was worn is, too", 0, () -> w.count(10));
        w.days(2);
        w.image();
        w.days(3);
        d.due("back", true, w::back);
        d.due("to the latest one", 2, () -> w.count(4));
        w.days(60);
        d.due("back again", true, w::back);
        d.due("it is kept still", 2, () -> w.count(4));
        ShirtWash empty = new ShirtWash();
        empty.image();
        Desk.camp(empty, Desk.men(0) + ";" + Desk.shirts(0) + ";wears 0 0;near 5");
        Desk.law(empty, "bar");
        d.due("back to nobody", true, empty::back);
        int[] due = {0, 0, 0, -1, 0, 0, 1, 0, 50, 0, 0, 0, 0, 0};
        for (int i = 0; i < due.length; i++) {
            int what = i;
            d.due("count(" + i + ") of nobody", due[i], () -> empty.count(what));
        }
        d.dueThrow("no man", INDEX, empty, () -> empty.man(0, 0));
        Desk.camp(empty, Desk.men(7) + ";" + Desk.shirts(3));
        d.due("the new man wears none", -1, () -> empty.man(0, 4));
        d.due("nobody wears the new shirt", -1, () -> empty.shirt(0, 5));
    }

    // ---- 34: "NONE for another what"

    private static void counts() {
        ShirtWash w = full();
        Desk.camp(w, "near 99;rainy 100;runs 0;wears 0 0;wears 9 11");
        int[] due = {10, 12, 5, -1, 0, 0, 99, 100, 0, 10, 8, 0, 0, 0};
        for (int i = 0; i < due.length; i++) {
            int what = i;
            d.due("count(" + i + ")", due[i], () -> w.count(what));
        }
        for (int what : new int[] {-1, 14, 15, 256, MIN, MAX}) {
            d.due("count(" + what + ")", -1, () -> w.count(what));
        }
        StringBuilder text = new StringBuilder("shirt red torn 999 lice 99 starch 9");
        for (int i = 0; i < 5; i++) {
            text.append(";shirt red torn 999 lice 99 starch 9");
        }
        ShirtWash worn = Desk.wash(text.toString(), text.toString());
        d.due("torn of all", 12 * 999, () -> worn.count(11));
        d.due("lice of all", 12 * 99, () -> worn.count(12));
    }
}
