import java.nio.charset.StandardCharsets;
import java.util.ArrayList;
import java.util.Arrays;
import java.util.List;
import java.util.Random;
import java.util.function.Supplier;

/** Runs of random calls, the same on the program and on the model; the answers must be the same ones. */
public final class RandomRunsTest {
    private static final int RUNS = Integer.getInteger("runs", 3000);
    private static final int CALLS = 150;
    private static final int TRIES = 6000;

    private final Random random;
    private final ShirtWash wash = new ShirtWash();
    private final Model model = new Model();
    private final List<String> told = new ArrayList<>();
    private final boolean large;
    private final boolean wordy;
    private int men = 0;
    private int shirts = 0;

    private RandomRunsTest(long seed) {
        random = new Random(seed);
        large = random.nextInt(5) == 0;
        wordy = random.nextInt(12) == 0;
    }

    public static void main(String[] args) {
        long calls = 0;
        for (long seed = 1; seed <= RUNS; seed++) {
            RandomRunsTest run = new RandomRunsTest(seed);
            try {
                run.all();
            } catch (AssertionError e) {
                System.out.println("run " + seed + ":");
                run.told.forEach(line -> System.out.println("  " + line));
                System.out.println(e.getMessage());
                System.exit(1);
            }
            calls += run.told.size();
        }
        System.out.println("RandomRunsTest: " + RUNS + " runs, " + calls + " calls, all as the model answers");
    }

    private void same(String call, Supplier<Object> program, Supplier<Object> plain) {
        String got = Desk.answer(program);
        told.add(call + " -> " + got);
        String want = Desk.answer(plain);
        if (!got.equals(want)) throw new AssertionError(call + " answered " + got + ", the model answers " + want);
    }

    private void all() {
        for (int i = 0; i < 6 && (men < 3 || shirts < 3) && random.nextInt(20) > 0; i++) campText(true);
        for (int i = 0; i < CALLS; i++) {
            oneCall();
            if (random.nextInt(6) == 0) compareAll();
        }
        compareAll();
    }

    private int pick(int most) {
        return random.nextInt(most);
    }

    /** Mostly the usual number, but now and then one far away. */
    private int wild(int usual) {
        if (pick(80) > 0) return usual;
        int[] far = {Integer.MIN_VALUE, Integer.MIN_VALUE + 1, Integer.MAX_VALUE, Integer.MAX_VALUE - 1, 1 << 30, -1, random.nextInt()};
        return far[pick(far.length)];
    }

    private int aMan() {
        return wild(pick(12) == 0 ? pick(14) - 2 : men == 0 ? 0 : pick(men));
    }

    private int aShirt() {
        return wild(pick(12) == 0 ? pick(16) - 2 : shirts == 0 ? 0 : pick(shirts));
    }

    private void oneCall() {
        int kind = pick(100);
        if (kind < (wordy ? 12 : 2)) campText(false);
        else if (kind < (wordy ? 24 : 5)) lawText();
        else if (kind < 46) act();
        else if (kind < 64) handingCall();
        else if (kind < 80) tapeCall();
        else if (kind < 96) lookCall();
        else if (kind < 97) tapeAlone();
        else if (kind < 98) {
            int n = random.nextInt();
            same("seed(" + n + ")", () -> wash.seed(n), () -> model.seed(n));
        } else if (kind < 99) {
            wash.image();
            model.image();
            told.add("image()");
        } else {
            same("back()", wash::back, model::back);
            compareAll();
        }
        men = model.count(0);
        shirts = model.count(1);
    }

    private void act() {
        int m = aMan();
        int h = aShirt();
        int o = aShirt();
        switch (pick(9)) {
            case 0: {
                int n = wild(pick(5) == 0 ? pick(64) - 2 : 1 + pick(2));
                same("days(" + n + ")", () -> wash.days(n), () -> model.days(n));
                break;
            }
            case 1: case 2: same("give(" + m + ", " + h + ")", () -> wash.give(m, h), () -> model.give(m, h)); break;
            case 3: same("take(" + m + ")", () -> wash.take(m), () -> model.take(m)); break;
            case 4: {
                String order = order();
                tape(order.getBytes(StandardCharsets.ISO_8859_1));
                same("hang() of " + order, wash::hang, model::hang);
                break;
            }
            case 5: same("truce()", wash::truce, model::truce); break;
            case 6:
                same("buttons(" + h + ", " + o + ")", () -> {
                    wash.buttons(h, o);
                    return "";
                }, () -> {
                    model.buttons(h, o);
                    return "";
                });
                break;
            case 7: same("lot()", wash::lot, model::lot); break;
            default: same("undo()", wash::undo, model::undo); break;
        }
    }

    private String order() {
        StringBuilder order = new StringBuilder();
        for (int i = 0; i < 12; i++) if (pick(3) > 0 && i < shirts) order.insert(pick(order.length() + 1), (char) (97 + i));
        if (pick(8) == 0) order.insert(pick(order.length() + 1), (char) (95 + pick(16)));
        return order.toString();
    }

    private void handingCall() {
        if (model.tries() > TRIES) return;
        int m = aMan();
        boolean cheapest = random.nextBoolean();
        switch (pick(6)) {
            case 0: same("ways()", wash::ways, model::ways); break;
            case 1: case 2: same("plan(" + m + ", " + cheapest + ")", () -> wash.plan(m, cheapest), () -> model.plan(m, cheapest)); break;
            case 3: same("least()", wash::least, model::least); break;
            case 4: same("lack()", wash::lack, model::lack); break;
            default: same("hand(" + cheapest + ")", () -> wash.hand(cheapest), () -> model.hand(cheapest)); break;
        }
    }

    private void tapeCall() {
        if (random.nextBoolean()) {
            int from = aMan();
            int to = aMan();
            byte[] bytes = new byte[Math.max(0, pick(9) == 0 ? men + pick(3) - 1 : men)];
            for (int i = 0; i < bytes.length; i++) bytes[i] = (byte) (pick(60) == 0 ? pick(256) : 48 + (men == 0 ? 0 : pick(men)));
            tape(bytes);
            same("home(" + from + ", " + to + ") of " + Arrays.toString(bytes), () -> wash.home(from, to), () -> model.home(from, to));
            return;
        }
        int rows = Math.min(30, model.count(5));
        int washes = pick(9) == 0 ? rows + 1 : pick(Math.min(rows, 6) + 1);
        byte[] bytes = new byte[2 * washes + (pick(15) == 0 ? 1 : 0)];
        int spies = pick(1 << Math.max(men, 1));
        for (int w = 0; w < washes; w++) {
            int bits = 0;
            for (int h = 0; h < shirts; h++) {
                int by = model.ledger(w, h);
                if (by == -1 ? pick(2) == 0 : (spies >> by & 1) != 0) bits |= 1 << h;
            }
            if (pick(12) == 0) bits ^= 1 << pick(shirts + 1);
            bytes[2 * w] = (byte) (bits >> 8);
            bytes[2 * w + 1] = (byte) bits;
        }
        tape(bytes);
        same("spies() of " + Arrays.toString(bytes), wash::spies, model::spies);
    }

    private void lookCall() {
        int m = aMan();
        int h = aShirt();
        int n = wild(pick(110) - 4);
        switch (pick(8)) {
            case 0: same("lines(" + n + ")", () -> wash.lines(n), () -> model.lines(n)); break;
            case 1: {
                int length = 1 + pick(14);
                same("lines(" + length + ")", () -> wash.lines(length), () -> model.lines(length));
                break;
            }
            case 2: {
                int a = wild(pick(5) - 1 - pick(20) / 19);
                int b = wild(pick(5) - 1);
                int times = wild(pick(11));
                same("blue(" + a + ", " + b + ", " + times + ")", () -> wash.blue(a, b, times), () -> model.blue(a, b, times));
                break;
            }
            case 3: same("trace(" + h + ")", () -> wash.trace(h), () -> model.trace(h)); break;
            case 4: case 5: {
                int k = pick(large ? 5 : 8);
                int what = wild(pick(4) - pick(20) / 19);
                int sum = 0;
                for (int i = 0; i < k && men > 0; i++) sum += model.man(pick(men), 2);
                int tears = wild(pick(4) == 0 ? pick(9 * k + 3) - 1 : sum);
                same("tore(" + tears + ", " + k + ", " + what + ")", () -> wash.tore(tears, k, what), () -> model.tore(tears, k, what));
                break;
            }
            case 6: {
                int what = wild(pick(10) - 2);
                same("man(" + m + ", " + what + ")", () -> wash.man(m, what), () -> model.man(m, what));
                same("shirt(" + h + ", " + what + ")", () -> wash.shirt(h, what), () -> model.shirt(h, what));
                break;
            }
            default: {
                int ago = wild(pick(40) - 3);
                same("ledger(" + ago + ", " + h + ")", () -> wash.ledger(ago, h), () -> model.ledger(ago, h));
                same("barred(" + m + ", " + h + ")", () -> wash.barred(m, h), () -> model.barred(m, h));
                same("cost(" + m + ", " + h + ")", () -> wash.cost(m, h), () -> model.cost(m, h));
                break;
            }
        }
    }

    private void tapeAlone() {
        for (int i = 0; i < 25; i++) {
            int a = random.nextInt();
            same("feed(" + a + ", ..)", () -> wash.feed(a, a + 1, a + 2, a + 3, a + 4), () -> model.feed(a, a + 1, a + 2, a + 3, a + 4));
        }
        int n = wild(pick(460) - 30);
        same("end(" + n + ")", () -> wash.end(n), () -> model.end(n));
        switch (pick(6)) {
            case 0: same("camp()", wash::camp, model::camp); break;
            case 1: same("law()", wash::law, model::law); break;
            case 2: same("hang()", wash::hang, model::hang); break;
            case 3: same("home(0, 1)", () -> wash.home(0, 1), () -> model.home(0, 1)); break;
            case 4: same("spies()", wash::spies, model::spies); break;
            default: break;
        }
        same("fault()", wash::fault, model::fault);
        tape(new byte[0]);
    }

    private void tape(byte[] bytes) {
        same("end(0)", () -> wash.end(0), () -> model.end(0));
        for (int i = 0; i < bytes.length; i += 20) {
            int[] f = new int[5];
            for (int j = 0; j < 5; j++) f[j] = Desk.four(bytes, i + 4 * j);
            if (wash.feed(f[0], f[1], f[2], f[3], f[4]) != model.feed(f)) throw new AssertionError("feed");
        }
        if (wash.end(bytes.length) != model.end(bytes.length)) throw new AssertionError("end");
    }

    // ---- texts

    private String blanks() {
        return pick(12) == 0 ? "   ".substring(pick(3)) : "";
    }

    private String gap() {
        return pick(120) == 0 ? blanks() : " " + blanks();
    }

    private String number(int most) {
        int n = pick(400) == 0 ? most + 1 + pick(3) : pick(30) == 0 ? most : pick(most + 1);
        String digits = String.valueOf(n);
        return pick(25) == 0 ? "0" + digits : pick(400) == 0 ? "00" + digits : digits;
    }

    private String colour() {
        return new String[] {"white", "blue", "red", "white"}[pick(4)];
    }

    private String spoil(String text) {
        if (pick(5) > 0 || text.isEmpty()) return text;
        int at = pick(text.length());
        String signs = "; ()<>+a0zAif9\t\0\u00ff";
        char sign = signs.charAt(pick(signs.length()));
        switch (pick(4)) {
            case 0: return text.substring(0, at);
            case 1: return text.substring(0, at) + text.substring(at + 1);
            case 2: return text.substring(0, at) + sign + text.substring(at);
            default: return text.substring(0, at) + sign + text.substring(at + 1);
        }
    }

    private byte[] bytes(String text) {
        byte[] bytes = text.getBytes(StandardCharsets.ISO_8859_1);
        return bytes.length > 400 ? Arrays.copyOf(bytes, 400) : bytes;
    }

    private void campText(boolean first) {
        int mostMen = large ? 10 : 4;
        int mostShirts = large ? 12 : 5;
        List<String> lines = new ArrayList<>();
        int many = first ? 4 + pick(8) : pick(6);
        for (int i = 0; i < many; i++) {
            int kind = pick(12);
            if (kind < 4 && (men + count(lines, "man") < mostMen || pick(25) == 0)) {
                lines.add("man" + gap() + number(large ? 30 : 9) + gap() + "squad" + gap() + number(9) + gap() + "tears" + gap() + number(9) + gap() + "wish " + colour());
            } else if (kind < 9 && (shirts + count(lines, "shirt") < mostShirts || pick(25) == 0)) {
                lines.add("shirt " + colour() + gap() + "torn" + gap() + number(pick(9) == 0 ? 999 : 20) + gap() + "lice" + gap() + number(99) + gap() + "starch" + gap() + number(9));
            } else if (kind == 9) {
                lines.add("near" + gap() + number(pick(9) == 0 ? 99 : 4));
            } else if (kind == 10) {
                lines.add((pick(2) == 0 ? "rainy" : "runs") + gap() + number(100));
            } else if (kind == 11) {
                lines.add("wears" + gap() + pick(Math.max(1, men + count(lines, "man"))) + " " + pick(Math.max(1, shirts + count(lines, "shirt"))));
            }
        }
        if (lines.size() > 0 && pick(40) == 0) while (lines.size() < 16) lines.add("near 1");
        String text = spoil(blanks() + String.join(blanks() + ";" + blanks(), lines) + blanks());
        tape(bytes(text));
        same("camp() of " + text, wash::camp, model::camp);
        same("fault()", wash::fault, model::fault);
        men = model.count(0);
        shirts = model.count(1);
        compareAll();
    }

    private static int count(List<String> lines, String word) {
        return (int) lines.stream().filter(l -> l.startsWith(word)).count();
    }

    private void lawText() {
        List<String> lines = new ArrayList<>();
        int many = pick(20) == 0 ? 10 + pick(4) : pick(4);
        for (int i = 0; i < many; i++) {
            String line = random.nextBoolean() ? "bar" : "cost" + gap() + number(pick(3) == 0 ? 999 : 6);
            lines.add(pick(6) == 0 ? line : line + gap() + "if" + gap() + condition(many > 6 ? 0 : pick(40) == 0 ? 8 : pick(4)));
        }
        String text = spoil(blanks() + String.join(blanks() + ";" + blanks(), lines) + blanks());
        tape(bytes(text));
        same("law() of " + text, wash::law, model::law);
        same("fault()", wash::fault, model::fault);
        compareAll();
    }

    private String condition(int deep) {
        String text = all(deep);
        while (pick(4) == 0) text += gap() + "or" + gap() + all(deep);
        return text;
    }

    private String all(int deep) {
        String text = atom(deep);
        while (pick(4) == 0) text += gap() + "and" + gap() + atom(deep);
        return text;
    }

    private String atom(int deep) {
        if (deep > 0) {
            int kind = pick(deep > 4 ? 2 : 4);
            if (kind == 0) return "not" + gap() + atom(deep - 1);
            if (kind == 1) return "(" + blanks() + condition(deep - 1) + blanks() + ")";
        }
        switch (pick(6)) {
            case 0: return "same";
            case 1: return "neighbour";
            case 2: return "wished";
            default: return sum() + blanks() + (random.nextBoolean() ? "<" : ">") + blanks() + sum();
        }
    }

    private String sum() {
        String text = part();
        while (pick(4) == 0) text += blanks() + "+" + blanks() + part();
        return text;
    }

    private String part() {
        String[] parts = {"colour", "torn", "lice", "starch", "button", "squad", "place", "tears", "washes"};
        int kind = pick(14);
        return kind < parts.length ? parts[kind] : number(pick(3) == 0 ? 99 : 6);
    }

    private void compareAll() {
        int known = told.size();
        for (int what = -1; what <= 14; what++) {
            int w = wild(what);
            same("count(" + w + ")", () -> wash.count(w), () -> model.count(w));
        }
        for (int m = 0; m < model.count(0); m++) {
            int i = m;
            for (int what = 0; what < 6; what++) {
                int w = what;
                same("man(" + i + ", " + w + ")", () -> wash.man(i, w), () -> model.man(i, w));
            }
            for (int h = 0; h < model.count(1); h++) {
                int j = h;
                same("barred(" + i + ", " + j + ")", () -> wash.barred(i, j), () -> model.barred(i, j));
                same("cost(" + i + ", " + j + ")", () -> wash.cost(i, j), () -> model.cost(i, j));
            }
        }
        for (int h = 0; h < model.count(1); h++) {
            int j = h;
            for (int what = 0; what < 7; what++) {
                int w = what;
                same("shirt(" + j + ", " + w + ")", () -> wash.shirt(j, w), () -> model.shirt(j, w));
            }
            for (int ago = 0; ago < 31; ago++) {
                int a = ago;
                same("ledger(" + a + ", " + j + ")", () -> wash.ledger(a, j), () -> model.ledger(a, j));
            }
        }
        // the SEED has no call that only reads it
        same("seed(0)", () -> wash.seed(0), () -> {
            int seed = model.seed(0);
            wash.seed(seed);
            model.seed(seed);
            return seed;
        });
        while (told.size() > known) told.remove(told.size() - 1);
        told.add("all compared");
    }
}
