import java.nio.charset.StandardCharsets;
import java.util.NoSuchElementException;
import java.util.function.Supplier;

/** What the tests share: texts come onto the tape, answers are compared, wrong ones are counted and printed. */
final class Desk {
    private final String name;
    private int asked = 0;
    private int wrong = 0;

    Desk(String name) {
        this.name = name;
    }

    /** The answer as a text; an exception as throws. and its simple name. */
    static String answer(Supplier<Object> call) {
        try {
            return String.valueOf(call.get());
        } catch (IllegalArgumentException | IllegalStateException | IndexOutOfBoundsException
                | NoSuchElementException | UnsupportedOperationException e) {
            return "throws." + e.getClass().getSimpleName();
        }
    }

    void due(String what, Object want, Supplier<Object> call) {
        asked++;
        String got = answer(call);
        if (!got.equals(String.valueOf(want))) {
            wrong++;
            System.out.println(name + ": " + what + " answered " + got + ", due is " + want);
        }
    }

    void end() {
        System.out.println(name + ": " + asked + " answers, " + wrong + " wrong");
        if (asked == 0 || wrong > 0) {
            System.exit(1);
        }
    }

    static void tape(ShirtWash wash, String text) {
        tape(wash, text.getBytes(StandardCharsets.ISO_8859_1));
    }

    /** The bytes come behind an empty tape; more than 400 do not go. */
    static void tape(ShirtWash wash, byte[] bytes) {
        for (int i = 0; i < bytes.length; i += 20) {
            wash.feed(four(bytes, i), four(bytes, i + 4), four(bytes, i + 8), four(bytes, i + 12), four(bytes, i + 16));
        }
        wash.end(bytes.length);
    }

    static int four(byte[] bytes, int from) {
        int number = 0;
        for (int i = from; i < from + 4; i++) {
            number = number << 8 | (i < bytes.length ? bytes[i] & 255 : 0);
        }
        return number;
    }

    static int camp(ShirtWash wash, String text) {
        tape(wash, text);
        return wash.camp();
    }

    static int law(ShirtWash wash, String text) {
        tape(wash, text);
        return wash.law();
    }

    static int hang(ShirtWash wash, String text) {
        tape(wash, text);
        return wash.hang();
    }

    static int home(ShirtWash wash, String text, int from, int to) {
        tape(wash, text);
        return wash.home(from, to);
    }

    static int spies(ShirtWash wash, int... ironed) {
        byte[] bytes = new byte[2 * ironed.length];
        for (int i = 0; i < ironed.length; i++) {
            bytes[2 * i] = (byte) (ironed[i] >> 8);
            bytes[2 * i + 1] = (byte) ironed[i];
        }
        tape(wash, bytes);
        return wash.spies();
    }
}
