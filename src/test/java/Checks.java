import java.nio.charset.StandardCharsets;

/** What all tests share: counting wrong answers, and texts told as words of eight bytes. */
final class Checks {
    private int wrong = 0;
    private int made = 0;

    void due(String call, long got, long want) {
        made++;
        if (got != want) {
            wrong++;
            System.out.println(call + " answered " + got + ", due is " + want);
        }
    }

    void fault(String what) {
        made++;
        wrong++;
        System.out.println(what);
    }

    boolean allRight() {
        return wrong == 0;
    }

    void end(String name) {
        System.out.println(name + ": " + made + " checks, " + wrong + " wrong");
        if (wrong != 0) {
            System.exit(1);
        }
    }

    static long word(byte[] bytes, int from) {
        long w = 0;
        for (int k = 0; k < 8 && from + k < bytes.length; k++) {
            w |= (bytes[from + k] & 255L) << (8 * k);
        }
        return w;
    }

    static byte[] bytes(String text) {
        return text.getBytes(StandardCharsets.ISO_8859_1);
    }

    static long letters(String name) {
        return word(bytes(name), 0);
    }

    static void feed(OfficeTables tables, String text) {
        byte[] bytes = bytes(text);
        for (int k = 0; k < bytes.length; k += 8) {
            tables.feed(word(bytes, k));
        }
    }

    /** A new object that has read the text. */
    static OfficeTables of(String text) {
        OfficeTables tables = new OfficeTables();
        feed(tables, text);
        int told = tables.read();
        if (told < 1) {
            throw new IllegalStateException(text + " has a fault: " + told);
        }
        return tables;
    }

    /** What read() answers for the text on a new object. */
    static int reading(String text) {
        OfficeTables tables = new OfficeTables();
        feed(tables, text);
        return tables.read();
    }
}
