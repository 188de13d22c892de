import java.nio.charset.StandardCharsets;

/** What all tests share: counting wrong answers, and texts told as words of eight bytes. */
final class Checks {
    private int wrong = 0;
    private int made = 0;
    private String sentence = "";

    /** The checks from here on hold a sentence of the document, told as it stands there, and where it stands. */
    void holds(String where, String said) {
        sentence = where + ", \"" + said + "\": ";
    }

    void due(String call, long got, long want) {
        made++;
        if (got != want) {
            wrong++;
            System.out.println(sentence + call + " answered " + got + ", due is " + want);
        }
    }

    void same(String what, String got, String want) {
        made++;
        if (!got.equals(want)) {
            wrong++;
            System.out.println(sentence + what + " is " + got + ", due is " + want);
        }
    }

    void reading(String text, int want) {
        due("read() of " + text, reading(text), want);
    }

    /** The fault is at the place of the sign ^, which is not in the text itself. */
    void faultAt(String marked) {
        int place = marked.indexOf('^');
        reading(marked.substring(0, place) + marked.substring(place + 1), -100 - place);
    }

    /** All reasons of the latest call, the outermost first, and that there are no more. */
    void reasons(String when, OfficeTables x, int... want) {
        for (int k = 0; k < want.length; k++) {
            due(when + ": reason(" + k + ")", x.reason(k), want[k]);
        }
        due(when + ": reason(" + want.length + ")", x.reason(want.length), OfficeTables.NONE);
    }

    /** All builds as rows of table, row, who asked. */
    void builds(String when, OfficeTables x, int[]... want) {
        due(when + ": builds()", x.builds(), want.length);
        for (int i = 0; i < want.length; i++) {
            for (int what = 0; what < 3; what++) {
                due(when + ": build(" + i + ", " + what + ")", x.build(i, what), want[i][what]);
            }
        }
        due(when + ": build(" + want.length + ", 0)", x.build(want.length, 0), OfficeTables.UNKNOWN);
    }

    /** All halves as rows of table, place, who read, what was there. */
    void halves(String when, OfficeTables x, long[]... want) {
        due(when + ": halves()", x.halves(), want.length);
        for (int i = 0; i < want.length; i++) {
            for (int what = 0; what < 4; what++) {
                due(when + ": half(" + i + ", " + what + ")", x.half(i, what), want[i][what]);
            }
        }
        due(when + ": half(" + want.length + ", 3)", x.half(want.length, 3), OfficeTables.UNKNOWN);
    }

    void fault(String what) {
        made++;
        wrong++;
        System.out.println(sentence + what);
    }

    boolean allRight() {
        return wrong == 0;
    }

    void end(String name) {
        System.out.println(name + ": " + made + " checks, " + wrong + " wrong");
        if (wrong != 0) {
            System.exit(1);
        }
    }

    static long word(byte[] bytes, int from) {
        long w = 0;
        for (int k = 0; k < 8 && from + k < bytes.length; k++) {
            w |= (bytes[from + k] & 255L) << (8 * k);
        }
        return w;
    }

    static byte[] bytes(String text) {
        return text.getBytes(StandardCharsets.ISO_8859_1);
    }

    static long letters(String name) {
        return word(bytes(name), 0);
    }

    static void feed(OfficeTables tables, String text) {
        byte[] bytes = bytes(text);
        for (int k = 0; k < bytes.length; k += 8) {
            tables.feed(word(bytes, k));
        }
    }

    /** A new object that has read the text. */
    static OfficeTables of(String text) {
        OfficeTables tables = new OfficeTables();
        feed(tables, text);
        int told = tables.read();
        if (told < 1) {
            throw new IllegalStateException(text + " has a fault: " + told);
        }
        return tables;
    }

    /** What read() answers for the text on a new object. */
    static int reading(String text) {
        OfficeTables tables = new OfficeTables();
        feed(tables, text);
        return tables.read();
    }
}
