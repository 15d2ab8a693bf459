import java.util.Arrays;
import java.util.NoSuchElementException;

/** The laundry of a regiment: who wears which shirt, what may be handed out, and what can be known of it. */
public final class ShirtWash {
    public static final int NONE = -1;

    private static final int MOST_BYTES = 400;
    private static final int FEED_BYTES = 20;
    private static final int MOST_MEN = 10;
    private static final int MOST_SHIRTS = 12;
    private static final int MOST_TEXTS = 10;
    private static final int MOST_CAMP_LINES = 14;
    private static final int MOST_LAW_LINES = 12;
    private static final int MOST_DEEP = 6;
    private static final int MOST_ROWS = 30;
    private static final int MOST_DAYS = 60;
    private static final int MOST_ACTS = 12;
    private static final int MOST_LETTER_WASHES = 30;
    private static final int MOST_TORE_WASHES = 6;
    private static final int MOST_LENGTH = 99;
    private static final int MOST_TIMES = 9;

    private static final int MOST_PLACE = 99;
    private static final int MOST_SQUAD = 9;
    private static final int MOST_TEARS = 9;
    private static final int MOST_TORN = 999;
    private static final int MOST_LICE = 99;
    private static final int MOST_STARCH = 9;
    private static final int MOST_NEAR = 99;
    private static final int MOST_CHANCE = 100;
    private static final int MOST_NUMBER = 999;
    private static final int MOST_DIGITS = 3;

    private static final int LICE_A_WASH = 3;
    private static final int DARNED_BELOW = 10;
    private static final int FIRST_SHIRT_BYTE = 97;
    private static final int FIRST_MAN_BYTE = 48;
    private static final long BILLION = 1000000000L;

    private static final int WHITE = 0;
    private static final int RED = 2;

    // the columns of a man's row, as man(man, what) counts them
    private static final int PLACE = 0;
    private static final int SQUAD = 1;
    private static final int TEARS = 2;
    private static final int WISH = 3;
    private static final int WEARS = 4;
    private static final int MAN_ROW = 5;
    private static final int NEIGHBOUR_BITS = 5;

    // the columns of a shirt's row, as shirt(shirt, what) counts them
    private static final int COLOUR = 0;
    private static final int TORN = 1;
    private static final int LICE = 2;
    private static final int STARCH = 3;
    private static final int BUTTON = 4;
    private static final int WEARER = 5;
    private static final int SHIRT_ROW = 6;
    private static final int LAST = 6;

    // the kinds of things in a text; 0 to 999 are the numbers themselves
    private static final int END = 1000;
    private static final int BAD = 1001;
    private static final int SEMICOLON = 1002;
    private static final int OPEN = 1003;
    private static final int CLOSE = 1004;
    private static final int LESS = 1005;
    private static final int MORE = 1006;
    private static final int PLUS = 1007;
    // no thing of a text, but a step of a law: the sum so far is the left one
    private static final int TURN = 1008;

    // a blank stands behind each; the kinds that follow are in the same order
    private static final String WORDS =
            "man squad tears wish shirt torn lice starch near rainy runs wears white blue red bar cost if or and not same neighbour wished colour button place washes ";
    private static final int WORD_MAN = 1010;
    private static final int WORD_SQUAD = 1011;
    private static final int WORD_TEARS = 1012;
    private static final int WORD_WISH = 1013;
    private static final int WORD_SHIRT = 1014;
    private static final int WORD_TORN = 1015;
    private static final int WORD_LICE = 1016;
    private static final int WORD_STARCH = 1017;
    private static final int WORD_NEAR = 1018;
    private static final int WORD_RAINY = 1019;
    private static final int WORD_RUNS = 1020;
    private static final int WORD_WEARS = 1021;
    private static final int WORD_WHITE = 1022;
    private static final int WORD_RED = 1024;
    private static final int WORD_BAR = 1025;
    private static final int WORD_COST = 1026;
    private static final int WORD_IF = 1027;
    private static final int WORD_OR = 1028;
    private static final int WORD_AND = 1029;
    private static final int WORD_NOT = 1030;
    private static final int WORD_SAME = 1031;
    private static final int WORD_NEIGHBOUR = 1032;
    private static final int WORD_WISHED = 1033;
    private static final int WORD_COLOUR = 1034;
    private static final int WORD_BUTTON = 1035;
    private static final int WORD_PLACE = 1036;
    private static final int WORD_WASHES = 1037;

    private final int[] tape = new int[MOST_BYTES];
    private int tapeSize = 0;
    private int wrongByte = NONE;
    private final Camp camp = new Camp();
    private final Camp picture = new Camp();
    private boolean pictured = false;
    private final Past past = new Past();
    private final CampReader campReader = new CampReader();
    private final LawReader lawReader = new LawReader();
    private final Handing handing = new Handing();
    private final Packing packing = new Packing();
    private final Guess guess = new Guess();

    public ShirtWash() {
    }

    public int feed(int a, int b, int c, int d, int e) {
        if (tapeSize + FEED_BYTES > MOST_BYTES) {
            return NONE;
        }
        putFour(a);
        putFour(b);
        putFour(c);
        putFour(d);
        putFour(e);
        return tapeSize;
    }

    public boolean end(int n) {
        if (n < 0 || n > tapeSize) {
            return false;
        }
        tapeSize = n;
        return true;
    }

    public int camp() throws IllegalArgumentException, UnsupportedOperationException {
        campReader.begin(camp, tape, useTape());
        boolean right = campReader.readLines(MOST_CAMP_LINES);
        wrongByte = campReader.wrong;
        if (!right) {
            throw new IllegalArgumentException("the text is wrong");
        }
        if (camp.texts >= MOST_TEXTS) {
            throw new UnsupportedOperationException("there are 10 texts");
        }
        camp.become(campReader.draft);
        camp.texts++;
        past.forget();
        return camp.texts;
    }

    public int law() throws IllegalArgumentException {
        lawReader.begin(tape, useTape());
        boolean right = lawReader.readLines(MOST_LAW_LINES);
        wrongByte = lawReader.wrong;
        if (!right) {
            throw new IllegalArgumentException("the text is wrong");
        }
        camp.law = lawReader.written();
        past.forget();
        return camp.lawLines();
    }

    public int fault() {
        return wrongByte;
    }

    public int man(int man, int what) throws IndexOutOfBoundsException, NoSuchElementException {
        if (!camp.isMan(man)) {
            throw new IndexOutOfBoundsException("no such man");
        }
        if (what < 0 || what > NEIGHBOUR_BITS) {
            throw new NoSuchElementException("no such what");
        }
        return what == NEIGHBOUR_BITS ? camp.neighboursOf(man) : camp.ofMan(man, what);
    }

    public int shirt(int shirt, int what) throws IndexOutOfBoundsException, NoSuchElementException {
        if (!camp.isShirt(shirt)) {
            throw new IndexOutOfBoundsException("no such shirt");
        }
        if (what < 0 || what > LAST) {
            throw new NoSuchElementException("no such what");
        }
        return what == LAST ? camp.lastOf(shirt) : camp.ofShirt(shirt, what);
    }

    public boolean barred(int man, int shirt) throws IndexOutOfBoundsException {
        if (!camp.isMan(man) || !camp.isShirt(shirt)) {
            throw new IndexOutOfBoundsException("no such man or shirt");
        }
        return camp.forbids(man, shirt);
    }

    public int cost(int man, int shirt) throws IndexOutOfBoundsException {
        if (!camp.isMan(man) || !camp.isShirt(shirt)) {
            throw new IndexOutOfBoundsException("no such man or shirt");
        }
        return camp.priceOf(man, shirt);
    }

    public int ledger(int ago, int shirt) throws IndexOutOfBoundsException {
        if (!camp.isShirt(shirt)) {
            throw new IndexOutOfBoundsException("no such shirt");
        }
        return camp.wornAt(ago, shirt);
    }

    public int days(int n) throws IllegalArgumentException {
        if (n < 1 || n > MOST_DAYS) {
            throw new IllegalArgumentException("these are no days");
        }
        past.remember(camp);
        int washes = 0;
        for (int i = 0; i < n; i++) {
            if (camp.oneDayMore()) {
                washes++;
            }
        }
        return washes;
    }

    public int give(int man, int shirt) throws IndexOutOfBoundsException, IllegalStateException {
        if (!camp.isMan(man) || !camp.isShirt(shirt)) {
            throw new IndexOutOfBoundsException("no such man or shirt");
        }
        if (!camp.isBare(man) || !camp.isInChest(shirt) || camp.forbids(man, shirt)) {
            throw new IllegalStateException("it cannot be given");
        }
        past.remember(camp);
        camp.handTo(man, shirt);
        return camp.ofShirt(shirt, LICE);
    }

    public int take(int man) throws IndexOutOfBoundsException, IllegalStateException {
        if (!camp.isMan(man)) {
            throw new IndexOutOfBoundsException("no such man");
        }
        if (camp.isBare(man)) {
            throw new IllegalStateException("he wears none");
        }
        past.remember(camp);
        int shirt = camp.ofMan(man, WEARS);
        camp.undress(shirt);
        return shirt;
    }

    public int hang() throws IllegalArgumentException, IllegalStateException {
        int hung = useTape();
        if (!tellsShirtsOnce(hung)) {
            throw new IllegalArgumentException("no such shirt, or told twice");
        }
        if (!tellsTheChestAlone(hung)) {
            throw new IllegalStateException("one is worn");
        }
        past.remember(camp);
        int changed = 0;
        for (int i = 0; i < hung; i++) {
            if (isStained(i, hung)) {
                changed++;
            }
        }
        return changed;
    }

    public int truce() {
        past.remember(camp);
        int darned = 0;
        for (int shirt = 0; shirt < camp.shirtCount; shirt++) {
            darned += camp.darn(shirt);
        }
        return darned;
    }

    public void buttons(int shirt, int other) throws IndexOutOfBoundsException, IllegalArgumentException {
        if (!camp.isShirt(shirt) || !camp.isShirt(other)) {
            throw new IndexOutOfBoundsException("no such shirt");
        }
        if (shirt == other) {
            throw new IllegalArgumentException("both are one");
        }
        past.remember(camp);
        int button = camp.ofShirt(shirt, BUTTON);
        camp.setShirt(shirt, BUTTON, camp.ofShirt(other, BUTTON));
        camp.setShirt(other, BUTTON, button);
    }

    public long ways() {
        handing.look(camp);
        return handing.countAll();
    }

    public int plan(int man, boolean cheapest) throws IndexOutOfBoundsException {
        if (!camp.isMan(man)) {
            throw new IndexOutOfBoundsException("no such man");
        }
        handing.look(camp);
        return handing.choose(cheapest) ? handing.shirtFor(man) : NONE;
    }

    public int least() {
        handing.look(camp);
        return handing.leastPrice();
    }

    public int lack() {
        handing.look(camp);
        return handing.shortMen();
    }

    public int hand(boolean cheapest) throws IllegalStateException {
        handing.look(camp);
        if (!handing.choose(cheapest)) {
            throw new IllegalStateException("there is no handing");
        }
        past.remember(camp);
        int given = 0;
        for (int man = 0; man < camp.manCount; man++) {
            int shirt = handing.shirtFor(man);
            if (shirt != NONE) {
                camp.handTo(man, shirt);
                given++;
            }
        }
        return given;
    }

    public int lot() {
        past.remember(camp);
        int given = 0;
        for (int man = 0; man < camp.manCount; man++) {
            if (camp.isBare(man) && camp.handByLot(man)) {
                given++;
            }
        }
        return given;
    }

    public int home(int from, int to) throws IndexOutOfBoundsException, IllegalArgumentException {
        int told = useTape();
        if (!camp.isMan(from) || !camp.isMan(to)) {
            throw new IndexOutOfBoundsException("no such man");
        }
        if (!tellsMen(told)) {
            throw new IllegalArgumentException("the tape does not tell a man for each");
        }
        int with = 1 << from;
        for (int washes = 0; washes <= MOST_LETTER_WASHES; washes++) {
            with = passed(with);
            if ((with >> to & 1) != 0) {
                return washes;
            }
            with = carried(with);
        }
        return NONE;
    }

    public long tore(int tears, int k, int what) throws NoSuchElementException, IllegalArgumentException {
        if (what < 0 || what > 2) {
            throw new NoSuchElementException("no such what");
        }
        if (tears < 0 || k < 1 || k > MOST_TORE_WASHES) {
            throw new IllegalArgumentException("no such tears or washes");
        }
        long all = guess.waysWithout(camp, tears, k, NONE);
        if (what == 0 || all == 0) {
            return all;
        }
        long men = 0;
        for (int man = 0; man < camp.manCount; man++) {
            long without = guess.waysWithout(camp, tears, k, man);
            if (what == 1 ? without == 0 : without < all) {
                men |= 1L << man;
            }
        }
        return men;
    }

    public int spies() throws IllegalArgumentException {
        int told = useTape();
        if (told % 2 != 0 || told / 2 > camp.rowCount() || !tellsBitsOfShirts(told)) {
            throw new IllegalArgumentException("the tape does not tell ironed shirts of washes");
        }
        int spies = 0;
        int others = 0;
        for (int ago = 0; ago < told / 2; ago++) {
            int ironed = pairAt(2 * ago);
            spies |= camp.wearersOf(ago, ironed);
            others |= camp.wearersOf(ago, ~ironed);
        }
        return (spies & others) != 0 ? NONE : spies;
    }

    public int lines(int length) throws IllegalArgumentException {
        if (length < 1 || length > MOST_LENGTH) {
            throw new IllegalArgumentException("no such length");
        }
        int white = packing.fewest(camp, true, length);
        int others = packing.fewest(camp, false, length);
        return white == NONE || others == NONE ? NONE : white + others;
    }

    public int blue(int ahead, int behind, int n) throws IllegalArgumentException {
        if (ahead < NONE || ahead > RED || behind < NONE || behind > RED || n < 1 || n > MOST_TIMES) {
            throw new IllegalArgumentException("no such colour or times");
        }
        int beside = (ahead > WHITE ? 1 : 0) + (behind > WHITE ? 1 : 0);
        long odds = BILLION;
        for (int i = 0; i < beside * n; i++) {
            odds = odds * (MOST_CHANCE - camp.runs) / MOST_CHANCE;
        }
        return (int) odds;
    }

    public int trace(int button) throws IllegalArgumentException {
        if (!camp.isShirt(button)) {
            throw new IllegalArgumentException("no such button");
        }
        int shirt = camp.shirtWithButton(button);
        int wearers = 0;
        for (int ago = 0; ago < camp.rowCount(); ago++) {
            int man = camp.wornAt(ago, shirt);
            wearers |= man == NONE ? 0 : 1 << man;
        }
        return Integer.bitCount(wearers);
    }

    public int seed(int n) {
        int before = camp.seed;
        camp.seed = n;
        return before;
    }

    public boolean undo() {
        return past.restore(camp);
    }

    public void image() {
        picture.become(camp);
        pictured = true;
    }

    public boolean back() {
        if (!pictured) {
            return false;
        }
        camp.become(picture);
        past.forget();
        return true;
    }

    public int count(int what) {
        switch (what) {
            case 0: return camp.manCount;
            case 1: return camp.shirtCount;
            case 2: return camp.texts;
            case 3: return camp.lawLines();
            case 4: return camp.day;
            case 5: return camp.washes;
            case 6: return camp.near;
            case 7: return camp.rainy;
            case 8: return camp.runs;
            case 9: return camp.shirtsInChest();
            case 10: return camp.bareMen();
            case 11: return camp.sumOfShirts(TORN);
            case 12: return camp.sumOfShirts(LICE);
            case 13: return past.size;
            default: return NONE;
        }
    }

    private void putFour(int number) {
        for (int shift = 24; shift >= 0; shift -= 8) {
            if (tapeSize >= 0 && tapeSize < tape.length) {
                tape[tapeSize] = number >>> shift & 255;
                tapeSize++;
            }
        }
    }

    /** The tape is empty from here on, but its bytes stay readable until the next feed. */
    private int useTape() {
        int size = tapeSize;
        tapeSize = 0;
        return size;
    }

    private int byteAt(int i) {
        return valueAt(tape, i);
    }

    private int pairAt(int i) {
        return byteAt(i) << 8 | byteAt(i + 1);
    }

    private int shirtAt(int i) {
        return byteAt(i) - FIRST_SHIRT_BYTE;
    }

    private boolean tellsShirtsOnce(int told) {
        int seen = 0;
        for (int i = 0; i < told; i++) {
            int shirt = shirtAt(i);
            if (!camp.isShirt(shirt) || (seen >> shirt & 1) != 0) {
                return false;
            }
            seen |= 1 << shirt;
        }
        return true;
    }

    private boolean tellsTheChestAlone(int told) {
        for (int i = 0; i < told; i++) {
            if (!camp.isInChest(shirtAt(i))) {
                return false;
            }
        }
        return true;
    }

    private boolean tellsMen(int told) {
        if (told != camp.manCount) {
            return false;
        }
        for (int i = 0; i < told; i++) {
            if (!camp.isMan(byteAt(i) - FIRST_MAN_BYTE)) {
                return false;
            }
        }
        return true;
    }

    private boolean tellsBitsOfShirts(int told) {
        for (int i = 0; i + 1 < told; i += 2) {
            if (pairAt(i) >> camp.shirtCount != 0) {
                return false;
            }
        }
        return true;
    }

    private boolean isStained(int i, int hung) {
        int shirt = shirtAt(i);
        if (camp.ofShirt(shirt, COLOUR) != WHITE) {
            return false;
        }
        return i > 0 && camp.takesColourOf(shirt, shirtAt(i - 1))
                || i + 1 < hung && camp.takesColourOf(shirt, shirtAt(i + 1));
    }

    private int passed(int with) {
        int now = with;
        for (int man = 0; man < camp.manCount; man++) {
            if ((with >> man & 1) != 0) {
                now |= camp.neighboursOf(man);
            }
        }
        return now;
    }

    private int carried(int with) {
        int now = 0;
        for (int man = 0; man < camp.manCount; man++) {
            if ((with >> man & 1) != 0) {
                now |= 1 << byteAt(man) - FIRST_MAN_BYTE;
            }
        }
        return now;
    }

    private static int valueAt(int[] row, int i) {
        return row != null && i >= 0 && i < row.length ? row[i] : NONE;
    }

    private static void setAt(int[] row, int i, int value) {
        if (row != null && i >= 0 && i < row.length) {
            row[i] = value;
        }
    }

    /** All that an act can change and undoing or going back brings again. */
    private static final class Camp {
        private final int[] men = new int[MOST_MEN * MAN_ROW];
        private final int[] shirts = new int[MOST_SHIRTS * SHIRT_ROW];
        // a wash each, the latest first: four bits a shirt, 0 for none, else 1 and the man
        private final long[] rows = new long[MOST_ROWS];
        private int manCount = 0;
        private int shirtCount = 0;
        private int texts = 0;
        private int near = 1;
        private int rainy = 0;
        private int runs = 50;
        private int day = 0;
        private int washes = 0;
        private int seed = 1;
        private Law law = null;

        private void become(Camp other) {
            System.arraycopy(other.men, 0, men, 0, men.length);
            System.arraycopy(other.shirts, 0, shirts, 0, shirts.length);
            System.arraycopy(other.rows, 0, rows, 0, rows.length);
            manCount = other.manCount;
            shirtCount = other.shirtCount;
            texts = other.texts;
            near = other.near;
            rainy = other.rainy;
            runs = other.runs;
            day = other.day;
            washes = other.washes;
            seed = other.seed;
            law = other.law;
        }

        private boolean isMan(int man) {
            return man >= 0 && man < manCount;
        }

        private boolean isShirt(int shirt) {
            return shirt >= 0 && shirt < shirtCount;
        }

        private int ofMan(int man, int what) {
            int i = man * MAN_ROW + what;
            return i >= 0 && i < men.length ? men[i] : NONE;
        }

        private void setMan(int man, int what, int value) {
            setAt(men, man * MAN_ROW + what, value);
        }

        private int ofShirt(int shirt, int what) {
            int i = shirt * SHIRT_ROW + what;
            return i >= 0 && i < shirts.length ? shirts[i] : NONE;
        }

        private void setShirt(int shirt, int what, int value) {
            setAt(shirts, shirt * SHIRT_ROW + what, value);
        }

        private void addMan(int place, int squad, int tears, int wish) {
            setMan(manCount, PLACE, place);
            setMan(manCount, SQUAD, squad);
            setMan(manCount, TEARS, tears);
            setMan(manCount, WISH, wish);
            setMan(manCount, WEARS, NONE);
            manCount++;
        }

        private void addShirt(int colour, int torn, int lice, int starch) {
            setShirt(shirtCount, COLOUR, colour);
            setShirt(shirtCount, TORN, torn);
            setShirt(shirtCount, LICE, lice);
            setShirt(shirtCount, STARCH, starch);
            setShirt(shirtCount, BUTTON, shirtCount);
            setShirt(shirtCount, WEARER, NONE);
            shirtCount++;
        }

        private boolean isBare(int man) {
            return ofMan(man, WEARS) == NONE;
        }

        private boolean isInChest(int shirt) {
            return ofShirt(shirt, WEARER) == NONE;
        }

        private void dress(int man, int shirt) {
            setMan(man, WEARS, shirt);
            setShirt(shirt, WEARER, man);
        }

        private void undress(int shirt) {
            setMan(ofShirt(shirt, WEARER), WEARS, NONE);
            setShirt(shirt, WEARER, NONE);
        }

        private void handTo(int man, int shirt) {
            dress(man, shirt);
            setShirt(shirt, LICE, ofShirt(shirt, LICE) / 2);
        }

        private boolean areNeighbours(int man, int other) {
            return man != other && Math.abs(ofMan(man, PLACE) - ofMan(other, PLACE)) <= near;
        }

        private int neighboursOf(int man) {
            int bits = 0;
            for (int other = 0; other < manCount; other++) {
                if (areNeighbours(man, other)) {
                    bits |= 1 << other;
                }
            }
            return bits;
        }

        private int rowCount() {
            return Math.min(washes, MOST_ROWS);
        }

        private int wornAt(int ago, int shirt) {
            if (ago < 0 || ago >= rows.length || !isShirt(shirt)) {
                return NONE;
            }
            return (int) (rows[ago] >>> 4 * shirt & 15) - 1;
        }

        private int lastOf(int shirt) {
            return wornAt(0, shirt);
        }

        private int wearersOf(int ago, int shirtBits) {
            int bits = 0;
            for (int shirt = 0; shirt < shirtCount; shirt++) {
                int man = wornAt(ago, shirt);
                if (man != NONE && (shirtBits >> shirt & 1) != 0) {
                    bits |= 1 << man;
                }
            }
            return bits;
        }

        private int draw() {
            seed = 1103515245 * seed + 12345;
            return seed >>> 16 & 32767;
        }

        private boolean oneDayMore() {
            boolean rains = draw() % 100 < rainy;
            day++;
            if (!rains) {
                washOnce();
            }
            return !rains;
        }

        private void washOnce() {
            long row = 0;
            for (int shirt = 0; shirt < shirtCount; shirt++) {
                int man = ofShirt(shirt, WEARER);
                if (man != NONE) {
                    row |= (long) (man + 1) << 4 * shirt;
                    wear(shirt, ofMan(man, TEARS));
                    undress(shirt);
                }
            }
            putRow(row);
            washes++;
        }

        private void putRow(long row) {
            for (int ago = rows.length - 1; ago >= 0; ago--) {
                rows[ago] = ago > 0 ? rows[ago - 1] : row;
            }
        }

        private void wear(int shirt, int tears) {
            setShirt(shirt, TORN, Math.min(ofShirt(shirt, TORN) + tears, MOST_TORN));
            setShirt(shirt, STARCH, Math.max(ofShirt(shirt, STARCH) - 1, 0));
            setShirt(shirt, LICE, Math.min(ofShirt(shirt, LICE) + LICE_A_WASH, MOST_LICE));
        }

        private int darn(int shirt) {
            int torn = ofShirt(shirt, TORN);
            int darned = Math.min(draw() % DARNED_BELOW, torn);
            setShirt(shirt, TORN, torn - darned);
            return darned;
        }

        private boolean takesColourOf(int shirt, int beside) {
            int colour = ofShirt(beside, COLOUR);
            if (colour == WHITE || draw() % 100 >= runs) {
                return false;
            }
            setShirt(shirt, COLOUR, colour);
            return true;
        }

        private boolean forbids(int man, int shirt) {
            if (law == null) {
                return isLastNeighbour(man, shirt);
            }
            tellLaw(law, man, shirt);
            return law.forbids();
        }

        private int priceOf(int man, int shirt) {
            if (law == null) {
                return 0;
            }
            tellLaw(law, man, shirt);
            return law.price();
        }

        private void tellLaw(Law law, int man, int shirt) {
            law.tell(WORD_SQUAD, ofMan(man, SQUAD));
            law.tell(WORD_PLACE, ofMan(man, PLACE));
            law.tell(WORD_TEARS, ofMan(man, TEARS));
            law.tell(WORD_COLOUR, ofShirt(shirt, COLOUR));
            law.tell(WORD_TORN, ofShirt(shirt, TORN));
            law.tell(WORD_LICE, ofShirt(shirt, LICE));
            law.tell(WORD_STARCH, ofShirt(shirt, STARCH));
            law.tell(WORD_BUTTON, ofShirt(shirt, BUTTON));
            law.tell(WORD_WASHES, washes);
            law.tellWhether(WORD_SAME, lastOf(shirt) == man);
            law.tellWhether(WORD_NEIGHBOUR, isLastNeighbour(man, shirt));
            law.tellWhether(WORD_WISHED, ofShirt(shirt, COLOUR) == ofMan(man, WISH));
        }

        private boolean isLastNeighbour(int man, int shirt) {
            int last = wornAt(0, shirt);
            return last != NONE && areNeighbours(man, last);
        }

        private int lawLines() {
            return law == null ? NONE : law.size();
        }

        private boolean canHave(int man, int shirt) {
            return isInChest(shirt) && !forbids(man, shirt);
        }

        private boolean handByLot(int man) {
            int can = 0;
            for (int shirt = 0; shirt < shirtCount; shirt++) {
                if (canHave(man, shirt)) {
                    can |= 1 << shirt;
                }
            }
            int many = Integer.bitCount(can);
            if (many == 0) {
                return false;
            }
            int ahead = draw() % many;
            for (int shirt = 0; shirt < shirtCount; shirt++) {
                if ((can >> shirt & 1) != 0) {
                    if (ahead == 0) {
                        handTo(man, shirt);
                        return true;
                    }
                    ahead--;
                }
            }
            return false;
        }

        private int shirtWithButton(int button) {
            for (int shirt = 0; shirt < shirtCount; shirt++) {
                if (ofShirt(shirt, BUTTON) == button) {
                    return shirt;
                }
            }
            return NONE;
        }

        private int shirtsInChest() {
            int many = 0;
            for (int shirt = 0; shirt < shirtCount; shirt++) {
                if (isInChest(shirt)) {
                    many++;
                }
            }
            return many;
        }

        private int bareMen() {
            int many = 0;
            for (int man = 0; man < manCount; man++) {
                if (isBare(man)) {
                    many++;
                }
            }
            return many;
        }

        private int sumOfShirts(int what) {
            int sum = 0;
            for (int shirt = 0; shirt < shirtCount; shirt++) {
                sum += ofShirt(shirt, what);
            }
            return sum;
        }
    }

    /** The camps ahead of the latest acts, in a ring. */
    private static final class Past {
        private final Camp[] kept = new Camp[MOST_ACTS];
        private int newest = 0;
        private int size = 0;

        private void remember(Camp now) {
            newest = newest + 1 < kept.length ? newest + 1 : 0;
            if (newest < 0 || newest >= kept.length) {
                return;
            }
            // made when first needed: most objects remember few acts
            if (kept[newest] == null) {
                kept[newest] = new Camp();
            }
            kept[newest].become(now);
            size = Math.min(size + 1, MOST_ACTS);
        }

        private boolean restore(Camp now) {
            if (size == 0 || newest < 0 || newest >= kept.length || kept[newest] == null) {
                return false;
            }
            now.become(kept[newest]);
            newest = newest > 0 ? newest - 1 : kept.length - 1;
            size--;
            return true;
        }

        private void forget() {
            size = 0;
        }
    }

    /** A text as its words, numbers and signs, each with its first byte. */
    private static final class Tokens {
        private final int[] kinds = new int[MOST_BYTES + 1];
        private final int[] begins = new int[MOST_BYTES + 1];
        private int size = 0;

        private void split(int[] text, int length) {
            size = 0;
            for (int at = 0; at < length; at++) {
                if (valueAt(text, at) != ' ') {
                    int next = nextOf(text, at, length);
                    add(kindOf(text, at, next), at);
                    at = Math.max(at, next - 1);
                }
            }
            add(END, length);
        }

        private void add(int kind, int begin) {
            setAt(kinds, size, kind);
            setAt(begins, size, begin);
            size++;
        }

        private static boolean isLetter(int sign) {
            return sign >= 'a' && sign <= 'z';
        }

        private static boolean isDigit(int sign) {
            return sign >= '0' && sign <= '9';
        }

        private static int nextOf(int[] text, int begin, int length) {
            boolean word = isLetter(valueAt(text, begin));
            boolean number = isDigit(valueAt(text, begin));
            for (int at = begin + 1; at < length; at++) {
                int sign = valueAt(text, at);
                if (!(word && isLetter(sign)) && !(number && isDigit(sign))) {
                    return at;
                }
            }
            return length;
        }

        private static int kindOf(int[] text, int begin, int next) {
            int sign = valueAt(text, begin);
            if (isLetter(sign)) {
                return wordOf(text, begin, next);
            }
            if (isDigit(sign)) {
                return numberOf(text, begin, next);
            }
            switch (sign) {
                case ';': return SEMICOLON;
                case '(': return OPEN;
                case ')': return CLOSE;
                case '<': return LESS;
                case '>': return MORE;
                case '+': return PLUS;
                default: return BAD;
            }
        }

        private static int wordOf(int[] text, int begin, int next) {
            int kind = WORD_MAN;
            int at = begin;
            boolean same = true;
            for (int i = 0; i < WORDS.length(); i++) {
                char letter = WORDS.charAt(i);
                if (letter != ' ') {
                    same = same && at < next && valueAt(text, at) == letter;
                    at++;
                } else if (same && at == next) {
                    return kind;
                } else {
                    kind++;
                    at = begin;
                    same = true;
                }
            }
            return BAD;
        }

        private static int numberOf(int[] text, int begin, int next) {
            if (next - begin > MOST_DIGITS) {
                return BAD;
            }
            int number = 0;
            for (int at = begin; at < next; at++) {
                number = 10 * number + valueAt(text, at) - '0';
            }
            return number;
        }
    }

    /** What both texts have in common: lines behind one another, and the first wrong byte. */
    private abstract static class Reader {
        final Tokens tokens = new Tokens();
        int at = 0;
        int lineCount = 0;
        int wrong = NONE;

        abstract boolean readLine();

        final boolean readLines(int mostLines) {
            at = 0;
            lineCount = 0;
            wrong = NONE;
            if (kind() == END) {
                return true;
            }
            for (int i = 0; i < mostLines; i++) {
                if (!readLine()) {
                    return false;
                }
                lineCount++;
                if (kind() == END) {
                    return true;
                }
                if (!step(SEMICOLON)) {
                    return false;
                }
            }
            return refuse();
        }

        final int kind() {
            int[] kinds = tokens.kinds;
            return at >= 0 && at < tokens.size && at < kinds.length ? kinds[at] : END;
        }

        /** What stands here is the first wrong thing; of the end this is the text's length. */
        final boolean refuse() {
            int[] begins = tokens.begins;
            wrong = at >= 0 && at < begins.length ? begins[at] : NONE;
            return false;
        }

        final boolean step(int kind) {
            if (kind() != kind) {
                return refuse();
            }
            at++;
            return true;
        }

        /** The number that stands here; NONE, and it is refused, if none up to the most does. */
        final int number(int most) {
            int number = kind();
            if (number < 0 || number > most) {
                refuse();
                return NONE;
            }
            at++;
            return number;
        }
    }

    /** Reads a text of the camp into a draft, so that nothing stays of a wrong one. */
    private static final class CampReader extends Reader {
        private final Camp draft = new Camp();

        private void begin(Camp camp, int[] text, int length) {
            draft.become(camp);
            tokens.split(text, length);
        }

        boolean readLine() {
            switch (kind()) {
                case WORD_MAN: return readMan();
                case WORD_SHIRT: return readShirt();
                case WORD_NEAR: return readSetting(WORD_NEAR, MOST_NEAR);
                case WORD_RAINY: return readSetting(WORD_RAINY, MOST_CHANCE);
                case WORD_RUNS: return readSetting(WORD_RUNS, MOST_CHANCE);
                case WORD_WEARS: return readWears();
                default: return refuse();
            }
        }

        private boolean readMan() {
            if (draft.manCount >= MOST_MEN) {
                return refuse();
            }
            int place = numberBehind(WORD_MAN, MOST_PLACE);
            if (place == NONE) {
                return false;
            }
            int squad = numberBehind(WORD_SQUAD, MOST_SQUAD);
            if (squad == NONE) {
                return false;
            }
            int tears = numberBehind(WORD_TEARS, MOST_TEARS);
            if (tears == NONE) {
                return false;
            }
            int wish = colourBehind(WORD_WISH);
            if (wish == NONE) {
                return false;
            }
            draft.addMan(place, squad, tears, wish);
            return true;
        }

        private boolean readShirt() {
            if (draft.shirtCount >= MOST_SHIRTS) {
                return refuse();
            }
            int colour = colourBehind(WORD_SHIRT);
            if (colour == NONE) {
                return false;
            }
            int torn = numberBehind(WORD_TORN, MOST_TORN);
            if (torn == NONE) {
                return false;
            }
            int lice = numberBehind(WORD_LICE, MOST_LICE);
            if (lice == NONE) {
                return false;
            }
            int starch = numberBehind(WORD_STARCH, MOST_STARCH);
            if (starch == NONE) {
                return false;
            }
            draft.addShirt(colour, torn, lice, starch);
            return true;
        }

        private boolean readSetting(int word, int most) {
            int setting = numberBehind(word, most);
            if (setting == NONE) {
                return false;
            }
            switch (word) {
                case WORD_NEAR:
                    draft.near = setting;
                    break;
                case WORD_RAINY:
                    draft.rainy = setting;
                    break;
                default:
                    draft.runs = setting;
                    break;
            }
            return true;
        }

        /** Other kinds than numbers lie above every man and shirt, so they are refused as well. */
        private boolean readWears() {
            at++;
            int man = kind();
            if (!draft.isMan(man) || !draft.isBare(man)) {
                return refuse();
            }
            at++;
            int shirt = kind();
            if (!draft.isShirt(shirt) || !draft.isInChest(shirt)) {
                return refuse();
            }
            at++;
            draft.dress(man, shirt);
            return true;
        }

        private int numberBehind(int word, int most) {
            return step(word) ? number(most) : NONE;
        }

        private int colourBehind(int word) {
            if (!step(word)) {
                return NONE;
            }
            int kind = kind();
            if (kind < WORD_WHITE || kind > WORD_RED) {
                refuse();
                return NONE;
            }
            at++;
            return kind - WORD_WHITE;
        }
    }

    /** Reads a law into steps: what is joined comes ahead of what joins it. */
    private static final class LawReader extends Reader {
        private final int[] steps = new int[MOST_BYTES];
        private final int[] ends = new int[MOST_LAW_LINES];
        private final int[] prices = new int[MOST_LAW_LINES];
        private int size = 0;

        private void begin(int[] text, int length) {
            size = 0;
            tokens.split(text, length);
        }

        private Law written() {
            return new Law(Arrays.copyOf(steps, Math.max(size, 0)),
                    Arrays.copyOf(ends, Math.max(lineCount, 0)),
                    Arrays.copyOf(prices, Math.max(lineCount, 0)));
        }

        boolean readLine() {
            int price = NONE;
            if (kind() == WORD_COST) {
                at++;
                price = number(MOST_NUMBER);
                if (price == NONE) {
                    return false;
                }
            } else if (!step(WORD_BAR)) {
                return false;
            }
            if (kind() == WORD_IF) {
                at++;
                if (!condition(0)) {
                    return false;
                }
            }
            setAt(prices, lineCount, price);
            setAt(ends, lineCount, size);
            return true;
        }

        private void write(int step) {
            if (size >= 0 && size < steps.length) {
                steps[size] = step;
                size++;
            }
        }

        private boolean condition(int deep) {
            if (!all(deep)) {
                return false;
            }
            for (int i = 0; i < MOST_BYTES && kind() == WORD_OR; i++) {
                at++;
                if (!all(deep)) {
                    return false;
                }
                write(WORD_OR);
            }
            return true;
        }

        private boolean all(int deep) {
            if (!atom(deep)) {
                return false;
            }
            for (int i = 0; i < MOST_BYTES && kind() == WORD_AND; i++) {
                at++;
                if (!atom(deep)) {
                    return false;
                }
                write(WORD_AND);
            }
            return true;
        }

        private boolean atom(int deep) {
            int kind = kind();
            if (kind == WORD_SAME || kind == WORD_NEIGHBOUR || kind == WORD_WISHED) {
                at++;
                write(kind);
                return true;
            }
            if (kind != OPEN && kind != WORD_NOT) {
                return comparison();
            }
            if (deep >= MOST_DEEP) {
                return refuse();
            }
            at++;
            if (kind == OPEN) {
                return condition(deep + 1) && step(CLOSE);
            }
            if (!atom(deep + 1)) {
                return false;
            }
            write(WORD_NOT);
            return true;
        }

        /** SUM < SUM or SUM > SUM: sums never nest, so one loop over the parts reads both. */
        private boolean comparison() {
            int sign = NONE;
            for (int i = 0; i < MOST_BYTES; i++) {
                int part = kind();
                if (!isPart(part)) {
                    return refuse();
                }
                at++;
                write(part);
                int next = kind();
                if (next == PLUS) {
                    at++;
                } else if (sign != NONE) {
                    write(sign);
                    return true;
                } else if (next == LESS || next == MORE) {
                    at++;
                    sign = next;
                    write(TURN);
                } else {
                    return refuse();
                }
            }
            return refuse();
        }

        private static boolean isPart(int kind) {
            switch (kind) {
                case WORD_COLOUR:
                case WORD_TORN:
                case WORD_LICE:
                case WORD_STARCH:
                case WORD_BUTTON:
                case WORD_SQUAD:
                case WORD_PLACE:
                case WORD_TEARS:
                case WORD_WASHES:
                    return true;
                default:
                    return kind >= 0 && kind <= MOST_NUMBER;
            }
        }
    }

    /** A law as it was read; it never changes, so the camp and what is remembered may share it. */
    private static final class Law {
        private final int[] steps;
        private final int[] ends;
        private final int[] prices;
        // what the words mean for the man and the shirt in question: told anew ahead of each question
        private final int[] facts = new int[WORD_WASHES - WORD_MAN + 1];

        private Law(int[] steps, int[] ends, int[] prices) {
            this.steps = steps;
            this.ends = ends;
            this.prices = prices;
        }

        private int size() {
            return prices.length;
        }

        private void tell(int word, int value) {
            int i = word - WORD_MAN;
            if (i >= 0 && i < facts.length) {
                facts[i] = value;
            }
        }

        private void tellWhether(int word, boolean holds) {
            tell(word, holds ? 1 : 0);
        }

        private boolean forbids() {
            for (int line = 0; line < prices.length; line++) {
                if (prices[line] == NONE && holds(line)) {
                    return true;
                }
            }
            return false;
        }

        private int price() {
            int sum = 0;
            for (int line = 0; line < prices.length; line++) {
                if (prices[line] != NONE && holds(line)) {
                    sum += prices[line];
                }
            }
            return sum;
        }

        /** The truths that wait to be joined are a stack of bits, the newest lowest: at most 16 by the depth of the text. */
        private boolean holds(int line) {
            int truths = 1;
            int left = 0;
            int sum = 0;
            int from = line > 0 ? valueAt(ends, line - 1) : 0;
            int to = Math.min(valueAt(ends, line), steps.length);
            for (int i = Math.max(from, 0); i < to; i++) {
                int step = steps[i];
                switch (step) {
                    case TURN:
                        left = sum;
                        sum = 0;
                        break;
                    case LESS:
                        truths = truths << 1 | (left < sum ? 1 : 0);
                        sum = 0;
                        break;
                    case MORE:
                        truths = truths << 1 | (left > sum ? 1 : 0);
                        sum = 0;
                        break;
                    case WORD_OR:
                        truths = truths >>> 1 | truths & 1;
                        break;
                    case WORD_AND:
                        truths = truths >>> 1 & (truths | ~1);
                        break;
                    case WORD_NOT:
                        truths ^= 1;
                        break;
                    case WORD_SAME:
                    case WORD_NEIGHBOUR:
                    case WORD_WISHED:
                        truths = truths << 1 | valueAt(facts, step - WORD_MAN);
                        break;
                    default:
                        sum += step <= MOST_NUMBER ? step : valueAt(facts, step - WORD_MAN);
                        break;
                }
            }
            return (truths & 1) != 0;
        }
    }

    /** The handings that can be, over the sets of shirts of the chest that are gone: man i chooses when i are. */
    private static final class Handing {
        private static final long NEVER = 1L << 40;

        private final long[] table = new long[1 << MOST_SHIRTS];
        private final int[] bare = new int[MOST_MEN];
        private final int[] chest = new int[MOST_SHIRTS];
        // of each bare man: bits of the places in the chest that he can be given, and what each costs
        private final int[] can = new int[MOST_MEN];
        private final int[] prices = new int[MOST_MEN * MOST_SHIRTS];
        private final int[] chosen = new int[MOST_MEN];
        private int bareCount = 0;
        private int chestCount = 0;

        private void look(Camp camp) {
            bareCount = 0;
            chestCount = 0;
            for (int shirt = 0; shirt < camp.shirtCount && chestCount < chest.length; shirt++) {
                if (camp.isInChest(shirt)) {
                    chest[chestCount] = shirt;
                    chestCount++;
                }
            }
            for (int man = 0; man < camp.manCount && bareCount < bare.length; man++) {
                if (camp.isBare(man)) {
                    bare[bareCount] = man;
                    lookAtMan(camp, man);
                    bareCount++;
                }
            }
        }

        private void lookAtMan(Camp camp, int man) {
            int bits = 0;
            for (int place = 0; place < chestCount; place++) {
                int shirt = valueAt(chest, place);
                if (!camp.forbids(man, shirt)) {
                    bits |= 1 << place;
                    setAt(prices, bareCount * MOST_SHIRTS + place, camp.priceOf(man, shirt));
                }
            }
            setAt(can, bareCount, bits);
        }

        private int shirtFor(int man) {
            return valueAt(chosen, man);
        }

        private long valueOf(int gone) {
            return gone >= 0 && gone < table.length ? table[gone] : NEVER;
        }

        private long countAll() {
            for (int gone = Math.min(1 << chestCount, table.length) - 1; gone >= 0; gone--) {
                table[gone] = waysFrom(gone);
            }
            return valueOf(0);
        }

        private long waysFrom(int gone) {
            int next = Integer.bitCount(gone);
            if (next >= bareCount) {
                return next == bareCount ? 1 : 0;
            }
            int left = valueAt(can, next) & ~gone;
            long ways = 0;
            for (int place = 0; place < chestCount; place++) {
                if ((left >> place & 1) != 0) {
                    ways += valueOf(gone | 1 << place);
                }
            }
            return ways;
        }

        private long priceAt(int next, int place, boolean cheapest) {
            return cheapest ? valueAt(prices, next * MOST_SHIRTS + place) : 0;
        }

        private long leastFrom(int gone, boolean cheapest) {
            int next = Integer.bitCount(gone);
            if (next >= bareCount) {
                return next == bareCount ? 0 : NEVER;
            }
            int left = valueAt(can, next) & ~gone;
            long best = NEVER;
            for (int place = 0; place < chestCount; place++) {
                if ((left >> place & 1) != 0) {
                    best = Math.min(best, valueOf(gone | 1 << place) + priceAt(next, place, cheapest));
                }
            }
            return best;
        }

        private long weigh(boolean cheapest) {
            for (int gone = Math.min(1 << chestCount, table.length) - 1; gone >= 0; gone--) {
                table[gone] = leastFrom(gone, cheapest);
            }
            return valueOf(0);
        }

        private int leastPrice() {
            long least = weigh(true);
            return least < NEVER ? (int) least : NONE;
        }

        /** The first of the handings that the table calls best; false without one. */
        private boolean choose(boolean cheapest) {
            Arrays.fill(chosen, NONE);
            if (weigh(cheapest) >= NEVER) {
                return false;
            }
            int gone = 0;
            for (int next = 0; next < bareCount; next++) {
                int place = firstBest(next, gone, cheapest);
                if (place == NONE) {
                    return false;
                }
                setAt(chosen, valueAt(bare, next), valueAt(chest, place));
                gone |= 1 << place;
            }
            return true;
        }

        private int firstBest(int next, int gone, boolean cheapest) {
            int left = valueAt(can, next) & ~gone;
            for (int place = 0; place < chestCount; place++) {
                if ((left >> place & 1) != 0
                        && valueOf(gone | 1 << place) + priceAt(next, place, cheapest) == valueOf(gone)) {
                    return place;
                }
            }
            return NONE;
        }

        /** A handing is lacking just if some men can be given fewer shirts than they are (Hall): none found, 0. */
        private int shortMen() {
            int fewest = MOST_MEN + 1;
            int found = 0;
            for (int group = 1; group < 1 << bareCount; group++) {
                int size = Integer.bitCount(group);
                if (size < fewest && Integer.bitCount(canTogether(group)) < size) {
                    fewest = size;
                    found = group;
                }
            }
            return menOf(found);
        }

        private int canTogether(int group) {
            int bits = 0;
            for (int i = 0; i < bareCount; i++) {
                if ((group >> i & 1) != 0) {
                    bits |= valueAt(can, i);
                }
            }
            return bits;
        }

        /** Bare men stand in the order of their numbers, so the least group has the least bits too. */
        private int menOf(int group) {
            int bits = 0;
            for (int i = 0; i < bareCount; i++) {
                if ((group >> i & 1) != 0) {
                    bits |= 1 << valueAt(bare, i);
                }
            }
            return bits;
        }
    }

    /** The fewest lines, over sets of shirts that hang: of two ways to hang a set that with fewer lines,
     *  then that whose last line is less full, is never worse. */
    private static final class Packing {
        private static final int LINE = 128;

        private final int[] table = new int[1 << MOST_SHIRTS];
        private final int[] sizes = new int[MOST_SHIRTS];
        private int many = 0;

        private int fewest(Camp camp, boolean white, int length) {
            if (!gather(camp, white, length)) {
                return NONE;
            }
            int sets = Math.min(1 << many, table.length);
            if (sets < 1) {
                return NONE;
            }
            // no line yet: as if a line 0 were full
            setAt(table, 0, length);
            for (int hung = 1; hung < sets; hung++) {
                table[hung] = bestOf(hung, length);
            }
            return table[sets - 1] / LINE;
        }

        private boolean gather(Camp camp, boolean white, int length) {
            many = 0;
            for (int shirt = 0; shirt < camp.shirtCount; shirt++) {
                if (camp.isInChest(shirt) && camp.ofShirt(shirt, COLOUR) == WHITE == white) {
                    int size = 1 + camp.ofShirt(shirt, STARCH);
                    if (size > length) {
                        return false;
                    }
                    setAt(sizes, many, size);
                    many++;
                }
            }
            return true;
        }

        private int bestOf(int hung, int length) {
            int best = (MOST_SHIRTS + 1) * LINE;
            for (int i = 0; i < many; i++) {
                if ((hung >> i & 1) != 0) {
                    best = Math.min(best, behind(hung ^ 1 << i, valueAt(sizes, i), length));
                }
            }
            return best;
        }

        private int behind(int others, int size, int length) {
            int before = others >= 0 && others < table.length ? table[others] : 0;
            return before % LINE + size <= length ? before + size : (before / LINE + 1) * LINE + size;
        }
    }

    /** In how many ways a shirt was torn, by the latest wearer and the tears so far. */
    private static final class Guess {
        private static final int SUMS = MOST_TEARS * MOST_TORE_WASHES + 1;

        private final long[] now = new long[MOST_MEN * SUMS];
        private final long[] next = new long[MOST_MEN * SUMS];

        private long waysWithout(Camp camp, int tears, int washes, int absent) {
            if (tears < 0 || tears >= SUMS) {
                return 0;
            }
            begin(camp, absent);
            for (int i = 1; i < washes; i++) {
                Arrays.fill(next, 0);
                for (int man = 0; man < camp.manCount; man++) {
                    if (man != absent) {
                        wearNext(camp, man, Math.min(tears, MOST_TEARS * (i + 1)));
                    }
                }
                System.arraycopy(next, 0, now, 0, now.length);
            }
            long ways = 0;
            for (int man = 0; man < camp.manCount; man++) {
                ways += waysAt(man, tears);
            }
            return ways;
        }

        private void begin(Camp camp, int absent) {
            Arrays.fill(now, 0);
            for (int man = 0; man < camp.manCount; man++) {
                int i = man * SUMS + camp.ofMan(man, TEARS);
                if (man != absent && i >= 0 && i < now.length) {
                    now[i] = 1;
                }
            }
        }

        private long waysAt(int man, int tears) {
            int i = man * SUMS + tears;
            return i >= 0 && i < now.length ? now[i] : 0;
        }

        private void wearNext(Camp camp, int man, int most) {
            int tears = camp.ofMan(man, TEARS);
            for (int other = 0; other < camp.manCount; other++) {
                if (other != man && !camp.areNeighbours(other, man)) {
                    for (int sum = tears; sum <= most; sum++) {
                        int i = man * SUMS + sum;
                        if (i >= 0 && i < next.length) {
                            next[i] += waysAt(other, sum - tears);
                        }
                    }
                }
            }
        }
    }
}
