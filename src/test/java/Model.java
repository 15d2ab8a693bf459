import java.math.BigInteger;
import java.util.ArrayDeque;
import java.util.ArrayList;
import java.util.Arrays;
import java.util.Deque;
import java.util.HashSet;
import java.util.List;
import java.util.NoSuchElementException;
import java.util.Set;
import java.util.TreeSet;

/** The document a second time, by the slowest and plainest means: every search tries everything. */
final class Model {
    static final int NONE = -1;

    interface Condition {
        boolean holds(State s, int man, int shirt);
    }

    interface Sum {
        int of(State s, int man, int shirt);
    }

    static final class LawLine {
        boolean bar;
        int price;
        Condition condition;
    }

    static final class Man {
        int place, squad, tears, wish, wears = NONE;

        Man copy() {
            Man m = new Man();
            m.place = place; m.squad = squad; m.tears = tears; m.wish = wish; m.wears = wears;
            return m;
        }
    }

    static final class Shirt {
        int colour, torn, lice, starch, button, worn = NONE, last = NONE;

        Shirt copy() {
            Shirt s = new Shirt();
            s.colour = colour; s.torn = torn; s.lice = lice; s.starch = starch; s.button = button; s.worn = worn; s.last = last;
            return s;
        }
    }

    static final class State {
        List<Man> men = new ArrayList<>();
        List<Shirt> shirts = new ArrayList<>();
        List<List<Integer>> ledger = new ArrayList<>();
        int texts = 0, near = 1, rainy = 0, runs = 50, day = 0, washes = 0, seed = 1;
        List<LawLine> law = null;

        State copy() {
            State s = new State();
            for (Man m : men) s.men.add(m.copy());
            for (Shirt h : shirts) s.shirts.add(h.copy());
            s.ledger.addAll(ledger);
            s.texts = texts; s.near = near; s.rainy = rainy; s.runs = runs;
            s.day = day; s.washes = washes; s.seed = seed; s.law = law;
            return s;
        }

        boolean neighbours(int a, int b) {
            if (a == b) return false;
            int apart = men.get(a).place - men.get(b).place;
            return apart <= near && -apart <= near;
        }

        int draw() {
            seed = (int) (1103515245L * seed + 12345L);
            int bits = 0;
            for (int b = 16; b <= 30; b++) if ((seed & 1 << b) != 0) bits += 1 << b - 16;
            return bits;
        }
    }

    static final class Wrong extends Exception {
        final int at;

        Wrong(int at) {
            this.at = at;
        }
    }

    State s = new State();
    State image = null;
    int fault = NONE;
    List<Integer> tape = new ArrayList<>();
    Deque<State> past = new ArrayDeque<>();

    // ---- the tape

    int feed(int... numbers) {
        if (tape.size() + 20 > 400) return NONE;
        for (int n : numbers) {
            tape.add(n >> 24 & 255);
            tape.add(n >> 16 & 255);
            tape.add(n >> 8 & 255);
            tape.add(n & 255);
        }
        return tape.size();
    }

    boolean end(int n) {
        if (n < 0 || n > tape.size()) return false;
        tape = new ArrayList<>(tape.subList(0, n));
        return true;
    }

    private List<Integer> use() {
        List<Integer> used = tape;
        tape = new ArrayList<>();
        return used;
    }

    // ---- reading

    static final class Text {
        final StringBuilder text = new StringBuilder();
        int at = 0;

        Text(List<Integer> bytes) {
            for (int b : bytes) text.append((char) b);
        }

        void blanks() {
            while (at < text.length() && text.charAt(at) == ' ') at++;
        }

        boolean over() {
            blanks();
            return at == text.length();
        }

        Wrong wrong() {
            blanks();
            return new Wrong(at);
        }

        private String run(char low, char high) {
            blanks();
            int e = at;
            while (e < text.length() && text.charAt(e) >= low && text.charAt(e) <= high) e++;
            return text.substring(at, e);
        }

        String word() {
            return run('a', 'z');
        }

        boolean accept(String word) {
            if (!word().equals(word)) return false;
            at += word.length();
            return true;
        }

        void expect(String word) throws Wrong {
            if (!accept(word)) throw wrong();
        }

        boolean sign(char c) {
            blanks();
            if (at < text.length() && text.charAt(at) == c) {
                at++;
                return true;
            }
            return false;
        }

        int peekNumber() throws Wrong {
            String digits = run('0', '9');
            if (digits.isEmpty() || digits.length() > 3) throw wrong();
            return Integer.parseInt(digits);
        }

        void passNumber() {
            at += run('0', '9').length();
        }

        int number(int most) throws Wrong {
            int n = peekNumber();
            if (n > most) throw wrong();
            passNumber();
            return n;
        }

        int colour() throws Wrong {
            int colour = Arrays.asList("white", "blue", "red").indexOf(word());
            if (colour < 0) throw wrong();
            at += word().length();
            return colour;
        }
    }

    int camp() {
        Text t = new Text(use());
        State draft = s.copy();
        try {
            if (!t.over()) {
                int lines = 0;
                do {
                    if (++lines > 14) throw t.wrong();
                    campLine(t, draft);
                } while (t.sign(';'));
                if (!t.over()) throw t.wrong();
            }
        } catch (Wrong w) {
            fault = w.at;
            throw new IllegalArgumentException();
        }
        fault = NONE;
        if (s.texts == 10) throw new UnsupportedOperationException();
        draft.texts++;
        s = draft;
        past.clear();
        return s.texts;
    }

    private static void campLine(Text t, State d) throws Wrong {
        switch (t.word()) {
            case "man": {
                if (d.men.size() == 10) throw t.wrong();
                Man m = new Man();
                t.expect("man");
                m.place = t.number(99);
                t.expect("squad");
                m.squad = t.number(9);
                t.expect("tears");
                m.tears = t.number(9);
                t.expect("wish");
                m.wish = t.colour();
                d.men.add(m);
                break;
            }
            case "shirt": {
                if (d.shirts.size() == 12) throw t.wrong();
                Shirt h = new Shirt();
                t.expect("shirt");
                h.colour = t.colour();
                t.expect("torn");
                h.torn = t.number(999);
                t.expect("lice");
                h.lice = t.number(99);
                t.expect("starch");
                h.starch = t.number(9);
                h.button = d.shirts.size();
                d.shirts.add(h);
                break;
            }
            case "near": t.expect("near"); d.near = t.number(99); break;
            case "rainy": t.expect("rainy"); d.rainy = t.number(100); break;
            case "runs": t.expect("runs"); d.runs = t.number(100); break;
            case "wears": {
                t.expect("wears");
                int m = t.peekNumber();
                if (m >= d.men.size() || d.men.get(m).wears != NONE) throw t.wrong();
                t.passNumber();
                int h = t.peekNumber();
                if (h >= d.shirts.size() || d.shirts.get(h).worn != NONE) throw t.wrong();
                t.passNumber();
                d.men.get(m).wears = h;
                d.shirts.get(h).worn = m;
                break;
            }
            default: throw t.wrong();
        }
    }

    int law() {
        Text t = new Text(use());
        List<LawLine> law = new ArrayList<>();
        try {
            if (!t.over()) {
                do {
                    if (law.size() == 12) throw t.wrong();
                    law.add(lawLine(t));
                } while (t.sign(';'));
                if (!t.over()) throw t.wrong();
            }
        } catch (Wrong w) {
            fault = w.at;
            throw new IllegalArgumentException();
        }
        fault = NONE;
        s.law = law;
        past.clear();
        return law.size();
    }

    private static LawLine lawLine(Text t) throws Wrong {
        LawLine line = new LawLine();
        line.condition = (s, m, h) -> true;
        if (t.accept("bar")) {
            line.bar = true;
        } else if (t.accept("cost")) {
            line.price = t.number(999);
        } else {
            throw t.wrong();
        }
        if (t.accept("if")) line.condition = condition(t, 0);
        return line;
    }

    private static Condition condition(Text t, int deep) throws Wrong {
        Condition left = all(t, deep);
        while (t.accept("or")) {
            Condition a = left;
            Condition b = all(t, deep);
            left = (s, m, h) -> a.holds(s, m, h) || b.holds(s, m, h);
        }
        return left;
    }

    private static Condition all(Text t, int deep) throws Wrong {
        Condition left = atom(t, deep);
        while (t.accept("and")) {
            Condition a = left;
            Condition b = atom(t, deep);
            left = (s, m, h) -> a.holds(s, m, h) && b.holds(s, m, h);
        }
        return left;
    }

    private static Condition atom(Text t, int deep) throws Wrong {
        if (t.word().equals("not")) {
            if (deep == 6) throw t.wrong();
            t.expect("not");
            Condition a = atom(t, deep + 1);
            return (s, m, h) -> !a.holds(s, m, h);
        }
        t.blanks();
        if (t.at < t.text.length() && t.text.charAt(t.at) == '(') {
            if (deep == 6) throw t.wrong();
            t.sign('(');
            Condition a = condition(t, deep + 1);
            if (!t.sign(')')) throw t.wrong();
            return a;
        }
        if (t.accept("same")) return (s, m, h) -> s.shirts.get(h).last == m;
        if (t.accept("neighbour")) {
            return (s, m, h) -> s.shirts.get(h).last != NONE && s.neighbours(s.shirts.get(h).last, m);
        }
        if (t.accept("wished")) return (s, m, h) -> s.shirts.get(h).colour == s.men.get(m).wish;
        Sum a = sum(t);
        boolean less = t.sign('<');
        if (!less && !t.sign('>')) throw t.wrong();
        Sum b = sum(t);
        return less ? (s, m, h) -> a.of(s, m, h) < b.of(s, m, h) : (s, m, h) -> a.of(s, m, h) > b.of(s, m, h);
    }

    private static Sum sum(Text t) throws Wrong {
        Sum left = part(t);
        while (t.sign('+')) {
            Sum a = left;
            Sum b = part(t);
            left = (s, m, h) -> a.of(s, m, h) + b.of(s, m, h);
        }
        return left;
    }

    private static Sum part(Text t) throws Wrong {
        if (t.accept("colour")) return (s, m, h) -> s.shirts.get(h).colour;
        if (t.accept("torn")) return (s, m, h) -> s.shirts.get(h).torn;
        if (t.accept("lice")) return (s, m, h) -> s.shirts.get(h).lice;
        if (t.accept("starch")) return (s, m, h) -> s.shirts.get(h).starch;
        if (t.accept("button")) return (s, m, h) -> s.shirts.get(h).button;
        if (t.accept("squad")) return (s, m, h) -> s.men.get(m).squad;
        if (t.accept("place")) return (s, m, h) -> s.men.get(m).place;
        if (t.accept("tears")) return (s, m, h) -> s.men.get(m).tears;
        if (t.accept("washes")) return (s, m, h) -> s.washes;
        int n = t.number(999);
        return (s, m, h) -> n;
    }

    int fault() {
        return fault;
    }

    // ---- looking

    private void needMan(int man) {
        if (man < 0 || man >= s.men.size()) throw new IndexOutOfBoundsException();
    }

    private void needShirt(int shirt) {
        if (shirt < 0 || shirt >= s.shirts.size()) throw new IndexOutOfBoundsException();
    }

    int man(int man, int what) {
        needMan(man);
        Man m = s.men.get(man);
        switch (what) {
            case 0: return m.place;
            case 1: return m.squad;
            case 2: return m.tears;
            case 3: return m.wish;
            case 4: return m.wears;
            case 5: {
                int bits = 0;
                for (int i = 0; i < s.men.size(); i++) if (s.neighbours(man, i)) bits += 1 << i;
                return bits;
            }
            default: throw new NoSuchElementException();
        }
    }

    int shirt(int shirt, int what) {
        needShirt(shirt);
        Shirt h = s.shirts.get(shirt);
        switch (what) {
            case 0: return h.colour;
            case 1: return h.torn;
            case 2: return h.lice;
            case 3: return h.starch;
            case 4: return h.button;
            case 5: return h.worn;
            case 6: return h.last;
            default: throw new NoSuchElementException();
        }
    }

    private boolean isBarred(int man, int shirt) {
        if (s.law == null) {
            int last = s.shirts.get(shirt).last;
            return last != NONE && s.neighbours(last, man);
        }
        return s.law.stream().anyMatch(l -> l.bar && l.condition.holds(s, man, shirt));
    }

    private int price(int man, int shirt) {
        if (s.law == null) return 0;
        return s.law.stream().filter(l -> !l.bar && l.condition.holds(s, man, shirt)).mapToInt(l -> l.price).sum();
    }

    boolean barred(int man, int shirt) {
        needMan(man);
        needShirt(shirt);
        return isBarred(man, shirt);
    }

    int cost(int man, int shirt) {
        needMan(man);
        needShirt(shirt);
        return price(man, shirt);
    }

    int ledger(int ago, int shirt) {
        needShirt(shirt);
        if (ago < 0 || ago >= s.ledger.size()) return NONE;
        List<Integer> row = s.ledger.get(ago);
        return shirt < row.size() ? row.get(shirt) : NONE;
    }

    // ---- acts

    private void act() {
        past.push(s.copy());
        while (past.size() > 12) past.removeLast();
    }

    int days(int n) {
        if (n < 1 || n > 60) throw new IllegalArgumentException();
        act();
        int before = s.washes;
        for (int i = 0; i < n; i++) {
            if (s.draw() % 100 >= s.rainy) wash();
            s.day++;
        }
        return s.washes - before;
    }

    private void wash() {
        List<Integer> row = new ArrayList<>();
        for (Shirt h : s.shirts) {
            row.add(h.worn);
            h.last = h.worn;
            if (h.worn != NONE) {
                h.torn = Math.min(999, h.torn + s.men.get(h.worn).tears);
                h.starch = Math.max(0, h.starch - 1);
                h.lice = Math.min(99, h.lice + 3);
                s.men.get(h.worn).wears = NONE;
                h.worn = NONE;
            }
        }
        s.ledger.add(0, row);
        if (s.ledger.size() > 30) s.ledger.remove(30);
        s.washes++;
    }

    private void given(int man, int shirt) {
        s.men.get(man).wears = shirt;
        s.shirts.get(shirt).worn = man;
        s.shirts.get(shirt).lice /= 2;
    }

    int give(int man, int shirt) {
        needMan(man);
        needShirt(shirt);
        if (s.men.get(man).wears != NONE || s.shirts.get(shirt).worn != NONE || isBarred(man, shirt)) {
            throw new IllegalStateException();
        }
        act();
        given(man, shirt);
        return s.shirts.get(shirt).lice;
    }

    int take(int man) {
        needMan(man);
        int shirt = s.men.get(man).wears;
        if (shirt == NONE) throw new IllegalStateException();
        act();
        s.men.get(man).wears = NONE;
        s.shirts.get(shirt).worn = NONE;
        return shirt;
    }

    int hang() {
        List<Integer> order = new ArrayList<>();
        for (int b : use()) order.add(b - 97);
        for (int h : order) if (h < 0 || h >= s.shirts.size()) throw new IllegalArgumentException();
        if (new HashSet<>(order).size() != order.size()) throw new IllegalArgumentException();
        for (int h : order) if (s.shirts.get(h).worn != NONE) throw new IllegalStateException();
        act();
        int changed = 0;
        for (int i = 0; i < order.size(); i++) {
            Shirt h = s.shirts.get(order.get(i));
            if (h.colour != 0) continue;
            for (int j = i - 1; j <= i + 1 && h.colour == 0; j += 2) {
                if (j < 0 || j >= order.size()) continue;
                int colour = s.shirts.get(order.get(j)).colour;
                if (colour != 0 && s.draw() % 100 < s.runs) {
                    h.colour = colour;
                    changed++;
                }
            }
        }
        return changed;
    }

    int truce() {
        act();
        int all = 0;
        for (Shirt h : s.shirts) {
            int darned = s.draw() % 10;
            while (darned > 0 && h.torn > 0) {
                darned--;
                h.torn--;
                all++;
            }
        }
        return all;
    }

    void buttons(int a, int b) {
        needShirt(a);
        needShirt(b);
        if (a == b) throw new IllegalArgumentException();
        act();
        int button = s.shirts.get(a).button;
        s.shirts.get(a).button = s.shirts.get(b).button;
        s.shirts.get(b).button = button;
    }

    // ---- handings

    private List<Integer> bareMen() {
        List<Integer> bare = new ArrayList<>();
        for (int m = 0; m < s.men.size(); m++) if (s.men.get(m).wears == NONE) bare.add(m);
        return bare;
    }

    private List<Integer> chest() {
        List<Integer> chest = new ArrayList<>();
        for (int h = 0; h < s.shirts.size(); h++) if (s.shirts.get(h).worn == NONE) chest.add(h);
        return chest;
    }

    /** All handings, in the order in which the first comes first. */
    private List<int[]> handings() {
        List<int[]> found = new ArrayList<>();
        List<Integer> bare = bareMen();
        handings(bare, chest(), 0, new int[bare.size()], found);
        return found;
    }

    private void handings(List<Integer> bare, List<Integer> chest, int next, int[] choice, List<int[]> found) {
        if (next == bare.size()) {
            found.add(choice.clone());
            return;
        }
        for (int i = 0; i < chest.size(); i++) {
            int h = chest.get(i);
            if (!isBarred(bare.get(next), h)) {
                List<Integer> rest = new ArrayList<>(chest);
                rest.remove(i);
                choice[next] = h;
                handings(bare, rest, next + 1, choice, found);
            }
        }
    }

    private int price(int[] handing) {
        List<Integer> bare = bareMen();
        int sum = 0;
        for (int i = 0; i < handing.length; i++) sum += price(bare.get(i), handing[i]);
        return sum;
    }

    private int[] chosen(boolean cheapest) {
        int[] best = null;
        for (int[] handing : handings()) {
            if (best == null || cheapest && price(handing) < price(best)) best = handing;
        }
        return best;
    }

    /** How many tries a search over handings may take: the random runs ask only where this is small. */
    long tries() {
        long tries = 1;
        int chest = chest().size();
        for (int i = 0; i < bareMen().size(); i++) tries *= Math.max(1, chest - i);
        return tries;
    }

    long ways() {
        return handings().size();
    }

    int plan(int man, boolean cheapest) {
        needMan(man);
        int i = bareMen().indexOf(man);
        int[] best = chosen(cheapest);
        return i < 0 || best == null ? NONE : best[i];
    }

    int least() {
        int[] best = chosen(true);
        return best == null ? NONE : price(best);
    }

    int lack() {
        if (!handings().isEmpty()) return 0;
        List<Integer> bare = bareMen();
        for (int size = 1; size <= bare.size(); size++) {
            for (int bits = 0; bits < 1 << s.men.size(); bits++) {
                if (Integer.bitCount(bits) != size) continue;
                Set<Integer> can = new HashSet<>();
                boolean allBare = true;
                for (int m = 0; m < s.men.size(); m++) {
                    if ((bits >> m & 1) == 0) continue;
                    allBare &= bare.contains(m);
                    for (int h : chest()) if (!isBarred(m, h)) can.add(h);
                }
                if (allBare && can.size() < size) return bits;
            }
        }
        throw new AssertionError("neither a handing nor a lack");
    }

    int hand(boolean cheapest) {
        int[] best = chosen(cheapest);
        if (best == null) throw new IllegalStateException();
        List<Integer> bare = bareMen();
        act();
        for (int i = 0; i < best.length; i++) given(bare.get(i), best[i]);
        return best.length;
    }

    int lot() {
        act();
        int many = 0;
        for (int m : bareMen()) {
            List<Integer> can = new ArrayList<>();
            for (int h : chest()) if (!isBarred(m, h)) can.add(h);
            if (!can.isEmpty()) {
                given(m, can.get(s.draw() % can.size()));
                many++;
            }
        }
        return many;
    }

    // ---- what can be known

    int home(int from, int to) {
        List<Integer> told = use();
        needMan(from);
        needMan(to);
        if (told.size() != s.men.size()) throw new IllegalArgumentException();
        for (int b : told) if (b < 48 || b - 48 >= s.men.size()) throw new IllegalArgumentException();
        Set<Integer> with = new TreeSet<>(List.of(from));
        for (int washes = 0; ; washes++) {
            Set<Integer> can = new TreeSet<>(with);
            for (int m : with) for (int o = 0; o < s.men.size(); o++) if (s.neighbours(m, o)) can.add(o);
            if (can.contains(to)) return washes;
            if (washes == 30) return NONE;
            with = new TreeSet<>();
            for (int m : can) with.add(told.get(m) - 48);
        }
    }

    long tore(int tears, int k, int what) {
        if (what < 0 || what > 2) throw new NoSuchElementException();
        if (tears < 0 || k < 1 || k > 6) throw new IllegalArgumentException();
        long[] found = {0, (1 << s.men.size()) - 1, 0};
        tore(tears, k, NONE, 0, found);
        if (found[0] == 0) found[1] = 0;
        return found[what];
    }

    private void tore(int tears, int k, int last, int bits, long[] found) {
        if (k == 0) {
            if (tears == 0) {
                found[0]++;
                found[1] &= bits;
                found[2] |= bits;
            }
            return;
        }
        for (int m = 0; m < s.men.size(); m++) {
            if (m != last && (last == NONE || !s.neighbours(m, last))) {
                tore(tears - s.men.get(m).tears, k - 1, m, bits | 1 << m, found);
            }
        }
    }

    int spies() {
        List<Integer> told = use();
        if (told.size() % 2 == 1 || told.size() / 2 > s.ledger.size()) throw new IllegalArgumentException();
        List<Integer> ironed = new ArrayList<>();
        for (int i = 0; i < told.size(); i += 2) ironed.add(told.get(i) * 256 + told.get(i + 1));
        for (int bits : ironed) if (bits >= 1 << s.shirts.size()) throw new IllegalArgumentException();
        int best = NONE;
        for (int men = 0; men < 1 << s.men.size(); men++) {
            if (areSpies(men, ironed) && (best == NONE || Integer.bitCount(men) < Integer.bitCount(best))) best = men;
        }
        return best;
    }

    private boolean areSpies(int men, List<Integer> ironed) {
        for (int w = 0; w < ironed.size(); w++) {
            for (int h = 0; h < s.shirts.size(); h++) {
                int m = ledger(w, h);
                if (m != NONE && (men >> m & 1) != (ironed.get(w) >> h & 1)) return false;
            }
        }
        return true;
    }

    int lines(int length) {
        if (length < 1 || length > 99) throw new IllegalArgumentException();
        List<Integer> white = new ArrayList<>();
        List<Integer> others = new ArrayList<>();
        for (int h : chest()) {
            int size = 1 + s.shirts.get(h).starch;
            if (size > length) return NONE;
            (s.shirts.get(h).colour == 0 ? white : others).add(size);
        }
        return fewest(white, length) + fewest(others, length);
    }

    private static int fewest(List<Integer> sizes, int length) {
        int lines = 0;
        while (!fits(sizes, 0, new int[lines], length)) lines++;
        return lines;
    }

    private static boolean fits(List<Integer> sizes, int next, int[] full, int length) {
        if (next == sizes.size()) return true;
        for (int i = 0; i < full.length; i++) {
            if (full[i] + sizes.get(next) <= length) {
                boolean empty = full[i] == 0;
                full[i] += sizes.get(next);
                if (fits(sizes, next + 1, full, length)) return true;
                full[i] -= sizes.get(next);
                // the lines behind are empty too, and as good as this one
                if (empty) return false;
            }
        }
        return false;
    }

    int blue(int ahead, int behind, int n) {
        if (ahead < -1 || ahead > 2 || behind < -1 || behind > 2 || n < 1 || n > 9) throw new IllegalArgumentException();
        BigInteger odds = BigInteger.valueOf(1_000_000_000);
        for (int i = 0; i < n; i++) {
            for (int beside : new int[] {ahead, behind}) {
                if (beside == 1 || beside == 2) {
                    odds = odds.multiply(BigInteger.valueOf(100 - s.runs)).divide(BigInteger.valueOf(100));
                }
            }
        }
        return odds.intValueExact();
    }

    int trace(int button) {
        for (int h = 0; h < s.shirts.size(); h++) {
            if (s.shirts.get(h).button == button) {
                Set<Integer> men = new HashSet<>();
                for (int ago = 0; ago < s.ledger.size(); ago++) men.add(ledger(ago, h));
                men.remove(NONE);
                return men.size();
            }
        }
        throw new IllegalArgumentException();
    }

    int seed(int n) {
        int before = s.seed;
        s.seed = n;
        return before;
    }

    boolean undo() {
        if (past.isEmpty()) return false;
        s = past.pop();
        return true;
    }

    void image() {
        image = s.copy();
    }

    boolean back() {
        if (image == null) return false;
        s = image.copy();
        past.clear();
        return true;
    }

    int count(int what) {
        switch (what) {
            case 0: return s.men.size();
            case 1: return s.shirts.size();
            case 2: return s.texts;
            case 3: return s.law == null ? NONE : s.law.size();
            case 4: return s.day;
            case 5: return s.washes;
            case 6: return s.near;
            case 7: return s.rainy;
            case 8: return s.runs;
            case 9: return chest().size();
            case 10: return bareMen().size();
            case 11: return s.shirts.stream().mapToInt(h -> h.torn).sum();
            case 12: return s.shirts.stream().mapToInt(h -> h.lice).sum();
            case 13: return past.size();
            default: return NONE;
        }
    }
}
