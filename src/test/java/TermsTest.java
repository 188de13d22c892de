import java.util.Arrays;
import java.util.List;

/** 'Terms' and section 1 of the document, sentence by sentence: each test names the one that it holds. */
public final class TermsTest {
    private static final Checks CHECK = new Checks();
    private static final String TERMS = "Terms", TAPE = "Section 1";
    private static final int UNKNOWN = OfficeTables.UNKNOWN, OUTSIDE = OfficeTables.OUTSIDE, STATE = OfficeTables.STATE,
        FULL = OfficeTables.FULL, NONE = OfficeTables.NONE;
    private static final int MIN = Integer.MIN_VALUE, MAX = Integer.MAX_VALUE;

    private static void due(String call, long got, long want) {
        CHECK.due(call, got, want);
    }

    private static void reading(String text, int want) {
        CHECK.reading(text, want);
    }

    private static void faultAt(String marked) {
        CHECK.faultAt(marked);
    }

    // ---- Terms

    private static void theFirstRefusalThatACallNames() {
        CHECK.holds(TERMS, "REFUSALS, of several the first that a call names: UNKNOWN (there is no such TABLE, BUILD, HALF),"
            + " OUTSIDE (another number is not as told), STATE (as told), FULL.");
        OfficeTables x = Checks.of("table a[9]whole=i;table b[9]rows=i;");
        due("row(2, 99): no table, ahead of no row", x.row(2, 99), UNKNOWN);
        due("row(0, 99): whole, ahead of no row", x.row(0, 99), STATE);
        due("row(1, 99): asleep, ahead of no row", x.row(1, 99), STATE);
        x.entry(1, 0);
        due("row(1, 99): no row", x.row(1, 99), OUTSIDE);
        due("sum(2, 5, 4, 9): no table, ahead of k and to", x.sum(2, 5, 4, 9), UNKNOWN);
        due("sum(0, 5, 4, 9): k and to", x.sum(0, 5, 4, 9), OUTSIDE);
        due("build(9, 9): no build, ahead of what", x.build(9, 9), UNKNOWN);
        due("build(0, 9): what", x.build(0, 9), OUTSIDE);
        due("half(0, 9): no half, ahead of what", x.half(0, 9), UNKNOWN);
    }

    private static void thereIsNoSuchTableBuildHalf() {
        CHECK.holds(TERMS, "UNKNOWN (there is no such TABLE, BUILD, HALF)");
        OfficeTables x = Checks.of("table a[9]whole=a[i];table b[9]rows=i;");
        x.entry(0, 0);
        for (int none : new int[] {-1, 2, 3, 11, 12, 13, MIN, MAX}) {
            due("size(" + none + ")", x.size(none), UNKNOWN);
            due("state(" + none + ")", x.state(none), UNKNOWN);
            due("row(" + none + ", 0)", x.row(none, 0), UNKNOWN);
            due("sum(" + none + ", 0, 0, 0)", x.sum(none, 0, 0, 0), UNKNOWN);
            due("find(" + none + ", 0)", x.find(none, 0), UNKNOWN);
            due("drop(" + none + ")", x.drop(none), UNKNOWN);
            due("reads(" + none + ", 0)", x.reads(none, 0), UNKNOWN);
            due("reads(0, " + none + ")", x.reads(0, none), UNKNOWN);
        }
        due("builds()", x.builds(), 1);
        due("halves()", x.halves(), 9);
        for (int none : new int[] {-1, 1, 99, 100, 101, MIN, MAX}) {
            due("build(" + none + ", 0)", x.build(none, 0), UNKNOWN);
        }
        for (int none : new int[] {-1, 9, 99, 100, 101, MIN, MAX}) {
            due("half(" + none + ", 0)", x.half(none, 0), UNKNOWN);
        }
        due("build(0, 0) is there", x.build(0, 0), 0);
        due("half(8, 1) is there", x.half(8, 1), 8);
    }

    /** What can be seen of the tables a, b, c, of what was done, and of the tape. */
    private static String all(OfficeTables x) {
        StringBuilder all = new StringBuilder();
        for (int k = 0; k < 5; k++) {
            all.append(x.count(k)).append(' ').append(x.reason(k)).append(' ');
        }
        for (int table = 0; table < 4; table++) {
            all.append('|').append(x.named('a' + table)).append(' ').append(x.size(table)).append(' ').append(x.state(table));
            for (int row = 0; row < 3; row++) {
                all.append(' ').append(x.row(table, row));
            }
        }
        all.append('|').append(x.builds()).append('|').append(x.halves()).append('|');
        for (int i = 0; i < 8; i++) {
            for (int what = 0; what < 4; what++) {
                all.append(x.build(i, what)).append(' ').append(x.half(i, what)).append(' ');
            }
        }
        return all.toString();
    }

    /** a is READY with a READY, a FAILED and an ASLEEP row, b FAILED, c ASLEEP; halves, reasons; 897 bytes with a fault. */
    private static OfficeTables busy() {
        OfficeTables x = Checks.of("table a[20]rows=((i<8)?i:((i<16)?a[i]+b[0]:7));table b[9]whole=b[i]/0;table c[9]rows=i;");
        x.entry(0, 0);
        x.entry(0, 8);
        CHECK.reasons("before", x, 7, 1);
        for (int k = 0; k < 112; k++) {
            x.feed(Checks.letters("table t["));
        }
        due("the tape before", x.feed('x'), 897);
        due("row 0 before", x.row(0, 0), 2);
        due("row 1 before", x.row(0, 1), 3);
        due("row 2 before", x.row(0, 2), 0);
        due("state of b before", x.state(1), 3);
        due("halves before", x.halves(), 2);
        return x;
    }

    private static long refused(OfficeTables x, int k) {
        switch (k) {
            case 0:
                return x.feed(Checks.letters("four")) - FULL;
            case 1:
                return x.feed(-1L) - FULL;
            case 2:
                return x.read() + 108;
            case 3:
                return x.row(0, 3) - OUTSIDE;
            case 4:
                return x.row(2, 0) - STATE;
            case 5:
                return x.row(3, 0) - UNKNOWN;
            case 6:
                return x.sum(3, 0, 0, 0) - UNKNOWN;
            case 7:
                return x.sum(2, 0, 0, 3) - OUTSIDE;
            case 8:
                return x.sum(2, 0, 0, -1) - OUTSIDE;
            case 9:
                return x.sum(2, 1, 0, 0) - OUTSIDE;
            case 10:
                return x.sum(2, 0, 1001, 0) - OUTSIDE;
            case 11:
                return x.sum(0, 17, 16, 0) - OUTSIDE;
            case 12:
                return x.find(3, 0) - UNKNOWN;
            case 13:
                return x.find(-1, 0) - UNKNOWN;
            case 14:
                return x.drop(1) - STATE;
            case 15:
                return x.drop(2) - STATE;
            case 16:
                return x.drop(3) - UNKNOWN;
            case 17:
                return x.build(9, 0) - UNKNOWN;
            case 18:
                return x.build(0, 3) - OUTSIDE;
            case 19:
                return x.half(9, 0) - UNKNOWN;
            case 20:
                return x.half(0, 4) - OUTSIDE;
            case 21:
                return x.reads(3, 0) - UNKNOWN;
            case 22:
                return x.reads(0, 3) - UNKNOWN;
            case 23:
                return x.count(5) - OUTSIDE;
            case 24:
                return x.size(3) - UNKNOWN;
            default:
                return x.state(3) - UNKNOWN;
        }
    }

    private static void whatIsRefusedChangesNothing() {
        CHECK.holds(TERMS, "What is refused changes nothing.");
        for (int k = 0; k < 26; k++) {
            OfficeTables x = busy();
            String before = all(x);
            due("refusal " + k + ", less what is due", refused(x, k), 0);
            CHECK.same("all after refusal " + k, all(x), before);
        }
    }

    private static void theConstants() {
        CHECK.holds(TERMS, "NONE is -9.");
        due("NONE", NONE, -9);
        CHECK.holds("The public face", "UNKNOWN = -1, OUTSIDE = -2, STATE = -3, FULL = -4, NONE = -9");
        due("UNKNOWN", UNKNOWN, -1);
        due("OUTSIDE", OUTSIDE, -2);
        due("STATE", STATE, -3);
        due("FULL", FULL, -4);
        CHECK.holds("What it is", "An object is used for at most 512 calls after it has been made");
        OfficeTables x = Checks.of("table a[9]rows=1/(i-8)+a[i];");
        for (int call = 6; call < 511; call += 2) {
            due("call " + call + ": entry(0, 8)", x.entry(0, 8), 0);
            due("call " + (call + 1) + ": drop(0)", x.drop(0), 9);
        }
        due("call 512: builds()", x.builds(), 2 * 253);
    }

    // ---- Section 1: the tape and its tokens

    private static String blanks(int many) {
        return " ".repeat(many);
    }

    private static void theTapeHasNineHundredBytesAtMost() {
        CHECK.holds(TAPE, "THE TAPE has bytes, 900 at most.");
        String text = "table a[3]whole=i;";
        reading(blanks(900 - text.length()) + text, 1);
        reading(text + "\n".repeat(900 - text.length()), 1);
        reading(blanks(889) + "table a[999", -1000);
        reading(blanks(899) + "x", -999);
        OfficeTables x = new OfficeTables();
        Checks.feed(x, blanks(899));
        due("feed(2 bytes) behind 899", x.feed(Checks.letters("ab")), FULL);
        due("feed(1 byte) behind 899", x.feed('a'), 900);
        due("feed(1 byte) behind 900", x.feed('a'), FULL);
        due("feed(no byte) behind 900", x.feed(0), 900);
        due("count(4)", x.count(4), 900);
    }

    private static void tokensAreAsLongAsCanBe() {
        CHECK.holds(TAPE, "TOKENS are as long as can be");
        faultAt("^tablea[3]whole=i;");
        faultAt("table a[3]^wholei=i;");
        faultAt("table a[3]^rowsx=i;");
        faultAt("table a[3]whole=ii^;");
        faultAt("table a[3]whole=isum^3;");
        faultAt("table a[3]whole=3^i;");
        faultAt("table a^1[3]whole=i;");
        reading("table a[3]whole=3sum9;", 1);
        due("a row of digits is one NUMBER", Checks.of("table a[12]whole=i;").size(0), 12);
        due("a row of letters is one NAME", Checks.of("table ab[12]whole=i;").named(Checks.letters("ab")), 0);
        due("its first letter is none", Checks.of("table ab[12]whole=i;").named('a'), NONE);
    }

    private static void blanksBetweenOrNot() {
        CHECK.holds(TAPE, "blanks (32, 10) between or not");
        reading("table a[3]rows=(i<2)*-#a+a[i]sum-2;", 1);
        reading(" table a [ 3 ] rows = ( i < 2 ) * - # a + a [ i ] sum - 2 ; ", 1);
        reading("\n\ntable\na\n[\n3\n]\nrows\n=\n(\ni\n<\n2\n)\n*\n-\n#\na\n+\na\n[\ni\n]\nsum\n-\n2\n;\n", 1);
        faultAt("^tab le a[3]whole=i;");
        faultAt("table a ^b[3]whole=i;");
        faultAt("table a\n^b[3]whole=i;");
        faultAt("table a[1 ^2]whole=i;");
        faultAt("table a[1\n^2]whole=i;");
        for (char no : new char[] {1, 8, 9, 11, 12, 13, 31, 33, 127, 128, 138, 160, 255}) {
            faultAt("^" + no + "table a[3]whole=i;");
            faultAt("table^" + no + "a[3]whole=i;");
            faultAt("table a[3]whole=i;^" + no);
        }
    }

    private static void aNumberHasOneToSixDigits() {
        CHECK.holds(TAPE, "a NUMBER (1 to 6 digits)");
        for (String number : new String[] {"0", "9", "10", "99999", "100000", "999999", "000000", "000007", "012345"}) {
            OfficeTables x = Checks.of("table a[" + number + "]whole=i;table b[1]whole=" + number + ";");
            due("SIZE " + number, x.size(0), Integer.parseInt(number));
            due("UNIT " + number, x.entry(1, 0), Integer.parseInt(number));
            reading("table a[1]whole=i sum " + number + ";", 1);
        }
    }

    private static void aNameHasOneToFiveLetters() {
        CHECK.holds(TAPE, "a NAME (1 to 5 letters a .. z)");
        for (String name : new String[] {"a", "z", "az", "abc", "wxyz", "abcde", "zzzzz"}) {
            OfficeTables x = Checks.of("table " + name + "[4]whole=#" + name + "+" + name + "[i];table x[#" + name + "]rows=i;");
            due("named(" + name + ")", x.named(Checks.letters(name)), 0);
            due("# of " + name, x.size(1), 4);
            due("entry of " + name, x.entry(0, 3), 4);
        }
        for (char no : new char[] {'A', 'Z', '@', '_', '`', '{', '|', 0xe0, 0xe1, 0xff}) {
            faultAt("table ^" + no + "[3]whole=i;");
            faultAt("table a^" + no + "[3]whole=i;");
            faultAt("table a[3]whole=#^" + no + ";");
        }
    }

    private static void theSignsAndNoOthers() {
        CHECK.holds(TAPE, "one of the signs [ ] ( ) = + - * / % < ? : # ;");
        reading("table a[1+1-1*1]whole=(i?1:2)+(i<1)-i*i/2%3+#a;", 1);
        String tokens = "abcdefghijklmnopqrstuvwxyz0123456789 \n[]()=+-*/%<?:#;";
        int others = 0;
        for (char one = 1; one < 256; one++) {
            if (tokens.indexOf(one) < 0) {
                others++;
                faultAt("^" + one);
                faultAt("table a[3]whole=i^" + one + ";");
                faultAt("table a[3]whole=(i^" + one + "i);");
                faultAt("table a[3]whole=i;^" + one);
            }
        }
        due("bytes that are no tokens", others, 255 - 36 - 2 - 15);
    }

    private static void longerRowsAreNoTokens() {
        CHECK.holds(TAPE, "(Longer rows of digits, letters are no TOKENS.)");
        for (String digits : new String[] {"1000000", "0000001", "0000000", "12345678901234567890123", "7".repeat(300)}) {
            faultAt("table a[^" + digits + "]whole=i;");
            faultAt("table a[3+^" + digits + "]whole=i;");
            faultAt("table a[3]whole=^" + digits + ";");
            faultAt("table a[3]whole=i sum ^" + digits + ";");
            faultAt("table a[3]whole=i sum -^" + digits + ";");
        }
        for (String letters : new String[] {"abcdef", "tables", "wholei", "aaaaaaaa", "abcdefghi", "x".repeat(300)}) {
            faultAt("^" + letters);
            faultAt("table ^" + letters + "[3]whole=i;");
            faultAt("table a[#^" + letters + "]whole=i;");
            faultAt("table a[3]^" + letters + "=i;");
            faultAt("table a[3]whole=^" + letters + "[i];");
            faultAt("table a[3]whole=#^" + letters + ";");
            faultAt("table a[3]whole=i ^" + letters + " 3;");
        }
    }

    // ---- Section 1: what a text is

    private static String tables(int many) {
        StringBuilder text = new StringBuilder();
        for (int k = 0; k < many; k++) {
            text.append("table ").append("abcdefghjklmn".charAt(k)).append("[1]whole=i;");
        }
        return text.toString();
    }

    private static void aTextIsOneToTwelveTables() {
        CHECK.holds(TAPE, "A TEXT: TABLES, 1 to 12, one behind the other:");
        reading("", -100);
        reading(" ", -101);
        reading("\n \n", -103);
        for (int many = 1; many <= 12; many++) {
            reading(tables(many), many);
        }
        faultAt(tables(12) + "^table n[1]whole=i;");
        due("the 12th has the number 11", Checks.of(tables(12)).named('m'), 11);
        faultAt("table a[1]whole=i;^;table b[1]whole=i;");
        faultAt("table a[1]whole=i ^table b[1]whole=i;");
    }

    private static final String[] KINDS = {"table", "whole", "rows", "sum", "i", "x", "7", "[", "]", "(", ")", "=", "+", "-",
        "*", "/", "%", "<", "?", ":", "#", ";", "1234567", "abcdef", "!"};

    /** Of all kinds of tokens behind the text, the told ones alone may stand there; all but the end leave it unended. */
    private static void mayFollow(String text, String told) {
        List<String> may = Arrays.asList(told.split(" "));
        for (String kind : KINDS) {
            if (may.contains(kind)) {
                String more = text + " " + kind;
                reading(more, kind.equals(";") ? 1 : -100 - more.length());
            } else {
                faultAt(text + " ^" + kind);
                faultAt(text + " ^" + kind + " table x[1]whole=i;");
            }
        }
        if (!text.endsWith(";")) {
            faultAt(text + "^");
            faultAt(text + " \n^");
        }
    }

    private static final String UNIT = "7 i # x - (", PAIRS = " + - * / %";

    private static void aTable() {
        CHECK.holds(TAPE, "table NAME [ SIZE ] MANNER = SUM END.");
        mayFollow("", "table");
        mayFollow("table", "x");
        mayFollow("table x", "[");
        mayFollow("table x[", "7 #");
        mayFollow("table x[7]", "whole rows");
        mayFollow("table x[7]whole", "=");
        mayFollow("table x[7]whole=", UNIT);
        mayFollow("table x[7]whole=i", "; sum" + PAIRS);
        mayFollow("table x[7]whole=i;", "table");
        CHECK.holds(TAPE, "(NAME: not table, whole, rows, sum, i.)");
        for (String no : new String[] {"table", "whole", "rows", "sum", "i"}) {
            faultAt("table ^" + no + "[3]whole=3;");
            faultAt("table a[#^" + no + "]whole=3;");
            faultAt("table a[3]whole=#^" + no + ";");
            faultAt("table a[3]whole=" + (no.equals("i") ? "i^[i];" : "^" + no + "[3];"));
        }
        for (String name : new String[] {"tabl", "abl", "whol", "row", "rowss", "su", "summ", "ii", "j", "elbat", "swor"}) {
            reading("table " + name + "[3]whole=" + name + "[i]+#" + name + ";table x[#" + name + "]whole=i;", 2);
        }
    }

    private static long sizeOf(String size) {
        OfficeTables x = Checks.of("table a[7]whole=i;table b[3-5]whole=i;table x[" + size + "]whole=i;");
        return x.size(2);
    }

    private static void aSize() {
        CHECK.holds(TAPE, "SIZE: PART, or PARTS with + - * between (all from the left, none first).");
        mayFollow("table x[7", "] + - *");
        mayFollow("table x[7+", "7 #");
        mayFollow("table x[7-", "7 #");
        mayFollow("table x[7*", "7 #");
        mayFollow("table x[7*7-7", "] + - *");
        due("2+3*4", sizeOf("2+3*4"), 20);
        due("2-3*4", sizeOf("2-3*4"), -4);
        due("9-3-2", sizeOf("9-3-2"), 4);
        due("9-3+2", sizeOf("9-3+2"), 8);
        due("2*3+4*5", sizeOf("2*3+4*5"), 50);
        CHECK.holds(TAPE, "PART: NUMBER | # NAME.");
        mayFollow("table x[#", "x");
        mayFollow("table x[#a", "] + - *");
        mayFollow("table x[7-#", "x");
        due("#a", sizeOf("#a"), 7);
        due("#a*#b+1", sizeOf("#a*#b+1"), -13);
        due("1-#b", sizeOf("1-#b"), 3);
    }

    private static void mannerAndEnd() {
        CHECK.holds(TAPE, "MANNER: whole | rows.");
        mayFollow("table x[7]rows", "=");
        faultAt("table x[7]whole ^rows=i;");
        OfficeTables x = Checks.of("table a[9]whole=i;table b[9]rows=i;");
        x.entry(0, 0);
        x.entry(1, 0);
        due("a whole one has no rows", x.row(0, 0), STATE);
        due("one by rows has", x.row(1, 0), 2);
        CHECK.holds(TAPE, "END: ; or sum NUMBER ; or sum - NUMBER ;");
        mayFollow("table x[7]whole=i sum", "7 -");
        mayFollow("table x[7]whole=i sum 7", ";");
        mayFollow("table x[7]whole=i sum -", "7");
        mayFollow("table x[7]whole=i sum - 7", ";");
        mayFollow("table x[7]whole=i sum - 7;", "table");
    }

    private static void aSum() {
        CHECK.holds(TAPE, "SUM: PRODUCTS with + - between (from the left). PRODUCT: UNITS with * / % between (likewise).");
        for (String sign : new String[] {"+", "-", "*", "/", "%"}) {
            mayFollow("table x[7]whole=i" + sign, UNIT);
            mayFollow("table x[7]whole=i" + sign + "i", "; sum" + PAIRS);
        }
        CHECK.holds(TAPE, "UNIT: NUMBER | i | # NAME | NAME [ SUM ] | - UNIT | ( SUM ) | ( SUM < SUM ) | ( SUM ? SUM : SUM ).");
        mayFollow("table x[7]whole=7", "; sum" + PAIRS);
        mayFollow("table x[7]whole=#", "x");
        mayFollow("table x[7]whole=#x", "; sum" + PAIRS);
        mayFollow("table x[7]whole=x", "[");
        mayFollow("table x[7]whole=x[", UNIT);
        mayFollow("table x[7]whole=x[i", "]" + PAIRS);
        mayFollow("table x[7]whole=x[i]", "; sum" + PAIRS);
        mayFollow("table x[7]whole=-", UNIT);
        mayFollow("table x[7]whole=-i", "; sum" + PAIRS);
        mayFollow("table x[7]whole=(", UNIT);
        mayFollow("table x[7]whole=(i", ") < ?" + PAIRS);
        mayFollow("table x[7]whole=(i)", "; sum" + PAIRS);
        mayFollow("table x[7]whole=(i<", UNIT);
        mayFollow("table x[7]whole=(i<i", ")" + PAIRS);
        mayFollow("table x[7]whole=(i<i)", "; sum" + PAIRS);
        mayFollow("table x[7]whole=(i?", UNIT);
        mayFollow("table x[7]whole=(i?i", ":" + PAIRS);
        mayFollow("table x[7]whole=(i?i:", UNIT);
        mayFollow("table x[7]whole=(i?i:i", ")" + PAIRS);
        mayFollow("table x[7]whole=(i?i:i)", "; sum" + PAIRS);
        mayFollow("table x[7]whole=((i)", ") < ?" + PAIRS);
        mayFollow("table x[7]whole=((i<i)", ") < ?" + PAIRS);
        mayFollow("table x[7]whole=x[(i)", "]" + PAIRS);
        mayFollow("table x[7]whole=(x[i]", ") < ?" + PAIRS);
    }

    // ---- Section 1: faults

    private static void theFirstTokenThatCannotStand() {
        CHECK.holds(TAPE, "FAULT: the first TOKEN that cannot stand there, or is none");
        faultAt("table a[3]whole=i+^;table b[4;");
        faultAt("table a[3]whole=i+^!;table b[4;");
        faultAt("table a[3]whole=i+^;table abcdef[4]");
        faultAt("table ^abcdef[4]whole=i+;");
        faultAt("table a[^1234567 abcdef");
        faultAt("table a[3]whole=i;^x");
        faultAt("table a[3]whole=i^");
        faultAt("table a[3]whole=i \n ^");
        faultAt("^");
        faultAt("  ^");
    }

    private static void aThirteenthTable() {
        CHECK.holds(TAPE, "a 13th TABLE (its first TOKEN)");
        faultAt(tables(12) + "\n^table n[1]whole=i;");
        faultAt(tables(12) + "^table a[");
        faultAt(tables(12) + "^table");
        faultAt(tables(12) + "^x");
        reading(tables(12) + " \n", 12);
        faultAt(tables(11) + "table m[1]whole=^;table n[1]whole=i;");
    }

    private static void theTwentyFifthUnit() {
        CHECK.holds(TAPE, "the 25th UNIT of a TABLE's SUM");
        String more = "+i".repeat(23);
        reading("table a[1]whole=i" + more + ";", 1);
        for (String unit : new String[] {"7", "i", "#a", "a[i]", "-i", "(i)", "(i<i)", "(i?i:i)", "#z", "z[i]", ")", "!"}) {
            for (String sign : new String[] {"+", "-", "*", "/", "%"}) {
                faultAt("table a[1]whole=i" + more + sign + "^" + unit + ";");
            }
        }
        faultAt("table a[1]whole=i" + more + "+^");
        String fewer = "+i".repeat(22);
        faultAt("table a[1]whole=i" + fewer + "+-^i;");
        faultAt("table a[1]whole=i" + fewer + "+(^i);");
        faultAt("table a[1]whole=i" + fewer + "+a[^i];");
        faultAt("table a[1]whole=(" + "i+".repeat(22) + "i<^i);");
        faultAt("table a[1]whole=(" + "i+".repeat(22) + "i?^i:i);");
        faultAt("table a[1]whole=(" + "i+".repeat(21) + "i?i:^i);");
        reading("table a[1]whole=(" + "i+".repeat(20) + "i?i:i);", 1);
        reading("table a[1]whole=i" + fewer + "+#a;", 1);
        reading("table a[1]whole=i" + more + ";table b[1]whole=i" + more + ";", 2);
        faultAt("table a[1]whole=i" + more + ";table b[1]whole=i" + more + "*^i;");
        faultAt("table a[1]whole=i" + "+((i))".repeat(7) + "+i+i+^i;");
        due("24 UNITS worked out", Checks.of("table a[9]rows=i" + "*i+i".repeat(11) + "-i;").entry(0, 8), 11 * 64);
        due("24 with 7 choices", Checks.of("table a[1]whole=" + "(0?1:".repeat(7) + "1+2+3" + ")".repeat(7) + ";").entry(0, 0), 6);
    }

    private static void oneThatIsInMoreThanTenOthers() {
        CHECK.holds(TAPE, "one that is in more than 10 others ( [ - (its first TOKEN)");
        String ahead = "(".repeat(9), behind = ")".repeat(9);
        for (String[] kind : new String[][] {{"(", ")"}, {"a[", "]"}, {"-", ""}, {"(i<", ")"}, {"(i?", ":i)"}, {"(i?i:", ")"}}) {
            reading("table a[1]whole=" + ahead + kind[0] + "i" + kind[1] + behind + ";", 1);
            faultAt("table a[1]whole=" + ahead + kind[0] + "(^i)" + kind[1] + behind + ";");
            faultAt("table a[1]whole=" + ahead + kind[0] + "-^i" + kind[1] + behind + ";");
            faultAt("table a[1]whole=" + ahead + kind[0] + "a[^i]" + kind[1] + behind + ";");
        }
        for (String[] kind : new String[][] {{"(", ")"}, {"a[", "]"}, {"-", ""}}) {
            reading("table a[1]whole=" + kind[0].repeat(10) + "i" + kind[1].repeat(10) + ";", 1);
            for (String unit : new String[] {"7", "i", "#a", "a[i]", "-i", "(i)", "(i?i:i)", "#z", "!", ")"}) {
                faultAt("table a[1]whole=" + kind[0].repeat(11) + "^" + unit + kind[1].repeat(11) + ";");
                faultAt("table a[1]whole=" + kind[0].repeat(11) + "^" + unit);
            }
        }
        faultAt("table a[1]whole=-(a[-(a[-(a[-(^i)])])]);");
        faultAt("table a[1]whole=(((((((((((^(i)))))))))));");
        reading("table a[1]whole=((((((((((i))))))))))+((((((((((i))))))))));", 1);
        String inTen = "(1-".repeat(10) + "i" + ")".repeat(10);
        due("in 10 others, worked out", Checks.of("table a[9]whole=" + inTen + ";").entry(0, 8), 8);
        reading("table a[1]whole=((((((((((i+i*i))))))))));", 1);
        reading("table a[1]whole=((((((((((i))))))))));table b[1]whole=((((((((((i))))))))));", 2);
        faultAt("table a[1]whole=((((((((((i)))))))))+((((((((((^i)))))))))));");
    }

    private static void theNinthPart() {
        CHECK.holds(TAPE, "the 9th PART of a SIZE");
        reading("table a[1+1+1+1+1+1+1+1]whole=i;", 1);
        due("8 PARTS", sizeOf("1+2*3-4+5*6-7+8"), 61);
        for (String part : new String[] {"1", "#a", "#b", "!", "]", "+", "x", "1234567"}) {
            for (String sign : new String[] {"+", "-", "*"}) {
                faultAt("table a[1+1*1-1+1*1-1+1" + sign + "^" + part + "]whole=i;");
                faultAt("table a[1]whole=i;table b[#a+#a+#a+#a+#a+#a+#a+#a" + sign + "^" + part + "]whole=i;");
            }
        }
        faultAt("table a[1+1+1+1+1+1+1+1+^");
        reading("table a[1+1+1+1+1+1+1+1]whole=i;table b[1+1+1+1+1+1+1+1]whole=i;", 2);
    }

    private static void onlyIfThereIsNone() {
        CHECK.holds(TAPE, "Only if there is none, the first NAME by PLACE (its first byte)");
        faultAt("table a[3]whole=b[i];^x");
        faultAt("table a[#z]whole=#y+b[i]^");
        faultAt("table a[3]whole=i;table a[3]whole=i;table c[3]whole=^;");
        faultAt("table a[3]whole=z[^1234567];");
        faultAt("table a[#z]whole=i" + "+i".repeat(23) + "+^i;");
        faultAt("table a[#z]whole=" + "(".repeat(11) + "^i" + ")".repeat(11) + ";");
        faultAt("table a[#z+1+1+1+1+1+1+1+^1]whole=i;");
        faultAt(tables(11) + "table a[1]whole=z[0];^table n[1]whole=i;");
        faultAt("table a[3]whole=^z[y[x[i]]]+#w;");
        faultAt("table a[3]whole=i+a[^z[i]]+y[i];");
        faultAt("table a[#^z]whole=#y+x[i];");
        faultAt("table a[3]whole=^z[i];table a[#y]whole=i;");
        faultAt("table a[3]whole=i;table ^a[#y]whole=z[i];");
        faultAt("table a[3]whole=i;table b[#^c]whole=z[i];table b[3]whole=i;table c[3]whole=i;");
        faultAt("table a[3]whole=#^z;table b[#c]whole=i;table a[3]whole=i;");
        CHECK.holds(TAPE, "that is told to a TABLE again");
        faultAt("table a[3]whole=i;table ^a[3]whole=i;");
        faultAt("table abcde[3]whole=i;table b[3]whole=i;table ^abcde[3]rows=i;table b[3]whole=i;");
        faultAt("table a[3]whole=i;table ^a[3]whole=i;table a[3]whole=i;");
        reading("table a[3]whole=i;table aa[3]whole=i;table b[3]whole=i;table ab[3]whole=i;table ba[3]whole=i;", 5);
        CHECK.holds(TAPE, "or is no TABLE's");
        faultAt("table a[3]whole=^b[i];");
        faultAt("table a[3]whole=#^b;");
        faultAt("table a[3]whole=i;table b[3]rows=a[a[i]]+(i?a[0]:#^c);");
        faultAt("table ab[3]whole=^a[i];");
        faultAt("table ab[3]whole=^b[i];");
        faultAt("table a[3]whole=^aa[i];");
        reading("table a[3]whole=a[i]+b[i]+#a+#b;table b[3]whole=i;", 2);
        CHECK.holds(TAPE, "or in a SIZE no TABLE's told ahead");
        faultAt("table a[#^z]whole=i;");
        faultAt("table a[#^a]whole=i;");
        faultAt("table a[#^b]whole=i;table b[3]whole=i;");
        faultAt("table a[3]whole=i;table b[#a+#^c]whole=i;table c[3]whole=i;");
        reading("table a[3]whole=i;table b[#a]whole=i;table c[#b+#a]whole=i;", 3);
    }

    public static void main(String[] args) {
        theFirstRefusalThatACallNames();
        thereIsNoSuchTableBuildHalf();
        whatIsRefusedChangesNothing();
        theConstants();
        theTapeHasNineHundredBytesAtMost();
        tokensAreAsLongAsCanBe();
        blanksBetweenOrNot();
        aNumberHasOneToSixDigits();
        aNameHasOneToFiveLetters();
        theSignsAndNoOthers();
        longerRowsAreNoTokens();
        aTextIsOneToTwelveTables();
        aTable();
        aSize();
        mannerAndEnd();
        aSum();
        theFirstTokenThatCannotStand();
        aThirteenthTable();
        theTwentyFifthUnit();
        oneThatIsInMoreThanTenOthers();
        theNinthPart();
        onlyIfThereIsNone();
        CHECK.end("TermsTest");
    }
}
