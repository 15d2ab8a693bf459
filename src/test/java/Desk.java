import java.nio.charset.StandardCharsets;
import java.util.NoSuchElementException;
import java.util.function.Supplier;

/** What the tests share: texts come onto the tape, answers are compared, wrong ones are counted and printed. */
final class Desk {
    private final String name;
    private int asked = 0;
    private int wrong = 0;

    Desk(String name) {
        this.name = name;
    }

    /** The answer as a text; an exception as throws. and its simple name. */
    static String answer(Supplier<Object> call) {
        try {
            return String.valueOf(call.get());
        } catch (IllegalArgumentException | IllegalStateException | IndexOutOfBoundsException
                | NoSuchElementException | UnsupportedOperationException e) {
            return "throws." + e.getClass().getSimpleName();
        }
    }

    void due(String what, Object want, Supplier<Object> call) {
        asked++;
        String got = answer(call);
        if (!got.equals(String.valueOf(want))) {
            wrong++;
            System.out.println(name + ": " + what + " answered " + got + ", due is " + want);
        }
    }

    void end() {
        System.out.println(name + ": " + asked + " answers, " + wrong + " wrong");
        if (asked == 0 || wrong > 0) {
            System.exit(1);
        }
    }

    static void tape(ShirtWash wash, String text) {
        tape(wash, text.getBytes(StandardCharsets.ISO_8859_1));
    }

    /** The bytes come behind an empty tape; more than 400 do not go. */
    static void tape(ShirtWash wash, byte[] bytes) {
        for (int i = 0; i < bytes.length; i += 20) {
            wash.feed(four(bytes, i), four(bytes, i + 4), four(bytes, i + 8), four(bytes, i + 12), four(bytes, i + 16));
        }
        wash.end(bytes.length);
    }

    static int four(byte[] bytes, int from) {
        int number = 0;
        for (int i = from; i < from + 4; i++) {
            number = number << 8 | (i < bytes.length ? bytes[i] & 255 : 0);
        }
        return number;
    }

    /** A new object that was told these texts of the camp. */
    static ShirtWash wash(String... texts) {
        ShirtWash wash = new ShirtWash();
        for (String text : texts) {
            camp(wash, text);
        }
        return wash;
    }

    static String men(int... places) {
        StringBuilder text = new StringBuilder();
        for (int place : places) {
            text.append(text.length() == 0 ? "" : ";").append("man ").append(place).append(" squad 0 tears 1 wish white");
        }
        return text.toString();
    }

    static String shirts(int... starches) {
        StringBuilder text = new StringBuilder();
        for (int starch : starches) {
            text.append(text.length() == 0 ? "" : ";").append("shirt white torn 0 lice 0 starch ").append(starch);
        }
        return text.toString();
    }

    static int camp(ShirtWash wash, String text) {
        tape(wash, text);
        return wash.camp();
    }

    static int law(ShirtWash wash, String text) {
        tape(wash, text);
        return wash.law();
    }

    static int hang(ShirtWash wash, String text) {
        tape(wash, text);
        return wash.hang();
    }

    static int home(ShirtWash wash, String text, int from, int to) {
        tape(wash, text);
        return wash.home(from, to);
    }

    static int spies(ShirtWash wash, int... ironed) {
        byte[] bytes = new byte[2 * ironed.length];
        for (int i = 0; i < ironed.length; i++) {
            bytes[2 * i] = (byte) (ironed[i] >> 8);
            bytes[2 * i + 1] = (byte) ironed[i];
        }
        tape(wash, bytes);
        return wash.spies();
    }

    static String buttons(ShirtWash wash, int shirt, int other) {
        wash.buttons(shirt, other);
        return "";
    }

    /** All that the calls show of an object, but for the tape and fault(). */
    static String all(ShirtWash wash) {
        StringBuilder all = new StringBuilder();
        for (int what = 0; what <= 13; what++) {
            all.append(wash.count(what)).append(' ');
        }
        for (int shirt = 0; shirt < wash.count(1); shirt++) {
            for (int what = 0; what <= 6; what++) {
                all.append(wash.shirt(shirt, what)).append(' ');
            }
            for (int ago = 0; ago < 30; ago++) {
                all.append(wash.ledger(ago, shirt)).append(' ');
            }
        }
        for (int man = 0; man < wash.count(0); man++) {
            for (int what = 0; what <= 5; what++) {
                all.append(wash.man(man, what)).append(' ');
            }
            for (int shirt = 0; shirt < wash.count(1); shirt++) {
                all.append(wash.barred(man, shirt)).append(wash.cost(man, shirt)).append(' ');
            }
        }
        int seed = wash.seed(0);
        wash.seed(seed);
        return all.append(seed).toString();
    }

    /** The call throws just this, leaves all as it was, and no tape if it uses it up. */
    void dueThrow(String what, String exception, ShirtWash wash, Supplier<Object> call) {
        String before = all(wash);
        due(what, "throws." + exception, call);
        due(what + " changes nothing", before, () -> all(wash));
    }

    /** The bytes are on the tape; the call throws just this, uses them up, and changes nothing else. */
    void dueThrowOf(String text, String what, String exception, ShirtWash wash, Supplier<Object> call) {
        tape(wash, text);
        dueThrow(what + " of '" + text + "'", exception, wash, call);
        due(what + " uses the tape up", false, () -> wash.end(1));
        wash.end(0);
    }

    /** The draws that come from a seed, by the document's words. */
    static int[] draws(int seed, int many) {
        int[] draws = new int[many];
        long now = seed;
        for (int i = 0; i < many; i++) {
            now = (int) (now * 1103515245L + 12345L);
            draws[i] = (int) (now >> 16 & 0x7fff);
        }
        return draws;
    }
}
