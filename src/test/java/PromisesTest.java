/** Promises 1 to 19, sentence by sentence: each test names the one that it holds. */
public final class PromisesTest {
    private static final Checks CHECK = new Checks();
    private static final int UNKNOWN = OfficeTables.UNKNOWN, OUTSIDE = OfficeTables.OUTSIDE, STATE = OfficeTables.STATE,
        FULL = OfficeTables.FULL, NONE = OfficeTables.NONE;
    private static final int MIN = Integer.MIN_VALUE, MAX = Integer.MAX_VALUE;
    private static final int[] NO_TABLES_OF_THREE = {-1, 3, 4, 11, 12, 13, MIN, MAX};
    private static final String POWERS = "table p[64]whole=((i<1)?1:p[i-1]*2);";
    private static final long ALL_ONES = 4294967295L;

    private static void due(String call, long got, long want) {
        CHECK.due(call, got, want);
    }

    private static void reasons(String when, OfficeTables x, int... want) {
        CHECK.reasons(when, x, want);
    }

    private static void read(OfficeTables x, String text, int want) {
        Checks.feed(x, text);
        due("read() of " + text, x.read(), want);
    }

    /** A table that is READY, one that is FAILED, one that is ASLEEP, each by rows; reasons, builds and halves. */
    private static OfficeTables three() {
        OfficeTables x = Checks.of("table a[20]rows=a[i]+((i<8)?i:1/0);table b[201]rows=i;table c[9]rows=i;");
        x.entry(0, 3);
        x.entry(1, 0);
        x.entry(0, 8);
        return x;
    }

    // ---- Promise 1

    private static void aNewObject() {
        CHECK.holds("Promise 1", "An empty TAPE, no TABLES.");
        three();
        OfficeTables x = new OfficeTables();
        for (int what = 0; what < 5; what++) {
            due("count(" + what + ")", x.count(what), 0);
        }
        due("cut()", x.cut(), 0);
        due("read()", x.read(), -100);
        due("named(a)", x.named('a'), NONE);
        due("named(0)", x.named(0), NONE);
        due("size(0)", x.size(0), UNKNOWN);
        due("state(0)", x.state(0), UNKNOWN);
        due("row(0, 0)", x.row(0, 0), UNKNOWN);
        due("entry(0, 0)", x.entry(0, 0), 0);
        due("reason(0)", x.reason(0), NONE);
        due("sum(0, 0, 0, 0)", x.sum(0, 0, 0, 0), UNKNOWN);
        due("find(0, 0)", x.find(0, 0), UNKNOWN);
        due("drop(0)", x.drop(0), UNKNOWN);
        due("builds()", x.builds(), 0);
        due("build(0, 0)", x.build(0, 0), UNKNOWN);
        due("halves()", x.halves(), 0);
        due("half(0, 0)", x.half(0, 0), UNKNOWN);
        due("reads(0, 0)", x.reads(0, 0), UNKNOWN);
        due("feed(1 byte)", x.feed('t'), 1);
        OfficeTables y = new OfficeTables();
        due("another one's tape", y.count(4), 0);
        read(y, "table a[3]whole=i;", 1);
        due("one's tables are not the other's", x.count(0), 0);
        due("nor its tape", x.count(4), 1);
    }

    // ---- Promise 2

    private static void theLowestFirst() {
        CHECK.holds("Promise 2", "Eight bytes come behind THE TAPE, the lowest of w first");
        OfficeTables x = new OfficeTables();
        due("feed(table a[)", x.feed(0x5B6120656C626174L), 8);
        due("feed(3]rows=i)", x.feed(0x693D73776F725D33L), 16);
        due("feed(;)", x.feed(0x3BL), 17);
        due("read()", x.read(), 1);
        due("size(0)", x.size(0), 3);
        due("feed(all bits)", x.feed(-1L), 8);
        due("feed(bytes above 127)", x.feed(0x8081828384858687L), 16);
        due("feed(seven bytes)", x.feed(0x20202020202020L), 23);
    }

    private static void asFarAsTheyAreNotZero() {
        CHECK.holds("Promise 2", "as far as they are not 0 (a 0 ends them): how many it has.");
        OfficeTables x = new OfficeTables();
        due("feed(0)", x.feed(0), 0);
        due("feed(0 is the lowest)", x.feed(0x6161616161616100L), 0);
        for (int many = 1; many <= 8; many++) {
            long w = many == 8 ? 0x6161616161616161L : (1L << 8 * many) - 1 & 0x6161616161616161L;
            due("feed(" + many + " bytes)", x.feed(w), many * (many + 1) / 2);
        }
        for (int many = 1; many < 7; many++) {
            long w = 0x6161616161616161L & ~(255L << 8 * many);
            int had = x.count(4);
            due("feed(a 0 behind " + many + ")", x.feed(w), had + many);
        }
        due("feed(0) later", x.feed(0), 57);
        due("feed(256)", x.feed(256), 57);
        due("cut()", x.cut(), 57);
        due("feed(the highest bit)", x.feed(Long.MIN_VALUE), 0);
        due("feed(255)", x.feed(255), 1);
    }

    private static void full() {
        CHECK.holds("Promise 2", "FULL.");
        for (int had = 888; had <= 900; had++) {
            for (int more = 0; more <= 8; more++) {
                OfficeTables x = new OfficeTables();
                Checks.feed(x, " ".repeat(had));
                String call = "feed(" + more + " bytes) behind " + had;
                boolean fits = had + more <= 900;
                due(call, x.feed(Checks.letters("x".repeat(more))), fits ? had + more : FULL);
                due(call + ", count(4)", x.count(4), fits ? had + more : had);
                due(call + ", read()", x.read(), -100 - had);
            }
        }
    }

    // ---- Promise 3

    private static void tablesInsteadOfThoseBefore() {
        CHECK.holds("Promise 3", "THE TAPE is read as a TEXT, whose TABLES come instead of those before");
        OfficeTables x = three();
        read(x, "table c[5]whole=c[i]+41;", 1);
        due("count(0)", x.count(0), 1);
        due("named(a)", x.named('a'), NONE);
        due("named(b)", x.named('b'), NONE);
        due("named(c)", x.named('c'), 0);
        due("size(0)", x.size(0), 5);
        due("size(1)", x.size(1), UNKNOWN);
        due("state(2)", x.state(2), UNKNOWN);
        due("reads(0, 0)", x.reads(0, 0), 1);
        due("entry(0, 4)", x.entry(0, 4), 41);
        due("its first HALF", x.half(0, 3), 0);
        read(x, "table d[2]rows=i;table c[3]whole=d[1];", 2);
        due("named(c) later", x.named('c'), 1);
        due("entry(1, 2)", x.entry(1, 2), 1);
        read(x, "table d[2]rows=i+7;table c[3]whole=d[1];", 2);
        due("entry(1, 2) later", x.entry(1, 2), 8);
    }

    /** Texts of before may be kept somewhere: whatever stood in them, shorter ones have nothing of it. */
    private static void nothingOfTextsBefore() {
        CHECK.holds("Promise 3", "whose TABLES come instead of those before");
        String longer = "table a[20]rows=a[i]*0+i;table b[20]whole=a[i]*0+i;table c[20]rows=a[i]*0+i sum 190;table d[20]whole=i/0;";
        OfficeTables x = new OfficeTables();
        for (int times = 0; times < 6; times++) {
            read(x, longer, 4);
            for (int table = 0; table < 4; table++) {
                x.find(table, -1);
            }
            due("count(1)", x.count(1), 3);
            due("count(2)", x.count(2), 1);
            due("count(3)", x.count(3), 60);
            for (int shorter = 3 - times % 3; shorter > 0 && times >= 3; shorter--) {
                due("cut()", x.cut(), 0);
                read(x, "table a[1]whole=i;table b[1]rows=i;table c[1]rows=i;".substring(0, new int[] {0, 18, 35, 52}[shorter]), shorter);
                for (int what = 0; what < 5; what++) {
                    due("count(" + what + ") of " + shorter, x.count(what), what == 0 ? shorter : 0);
                }
                for (int table = 0; table < shorter; table++) {
                    due("reads(" + table + ", 0) of " + shorter, x.reads(table, 0), 0);
                    due("sum(" + table + ", 0, 0, 0) of " + shorter, x.sum(table, 0, 0, 0), 0);
                    due("state(" + table + ") of " + shorter, x.state(table), 2);
                }
                due("named(a)", x.named('a'), 0);
                due("named(c)", x.named('c'), shorter == 3 ? 2 : NONE);
                due("named(d)", x.named('d'), NONE);
                due("reads(0, " + shorter + ")", x.reads(0, shorter), UNKNOWN);
                due("entry(" + shorter + ", 0)", x.entry(shorter, 0), 0);
                due("builds()", x.builds(), 2 * shorter - 1);
            }
        }
    }

    private static void allAsleep() {
        CHECK.holds("Promise 3", "all ASLEEP");
        OfficeTables x = three();
        read(x, "table a[20]rows=i;table b[200]rows=i;table c[9]rows=i;", 3);
        for (int table = 0; table < 3; table++) {
            due("state(" + table + ")", x.state(table), 0);
        }
        due("count(1)", x.count(1), 0);
        due("count(2)", x.count(2), 0);
        due("count(3)", x.count(3), 0);
        due("entry(0, 16)", x.entry(0, 16), 16);
        due("row(0, 0) was READY", x.row(0, 0), 0);
        due("row(0, 1) was FAILED", x.row(0, 1), 0);
        read(x, "table a[20]rows=i;", 1);
        x.entry(0, 0);
        due("row(0, 2) was READY", x.row(0, 2), 0);
        read(x, "table a[20]rows=i;", 1);
        due("drop(0)", x.drop(0), STATE);
    }

    private static void noBuildsHalvesReasons() {
        CHECK.holds("Promise 3", "and is empty then (no BUILDS, HALVES, REASONS)");
        OfficeTables x = three();
        due("builds() before", x.builds(), 4);
        due("halves() before", x.halves(), 9);
        reasons("before", x, 1);
        read(x, "table a[20]rows=a[i];", 1);
        due("count(4)", x.count(4), 0);
        due("cut()", x.cut(), 0);
        due("builds()", x.builds(), 0);
        due("build(0, 0)", x.build(0, 0), UNKNOWN);
        due("halves()", x.halves(), 0);
        due("half(0, 0)", x.half(0, 0), UNKNOWN);
        reasons("after", x);
        due("feed(x)", x.feed('x'), 1);
        due("the tape begins anew", x.read(), -100);
        x.entry(0, 9);
        due("builds() begin anew", x.build(0, 0) * 10 + x.build(1, 1), 1);
        due("halves() begin anew", x.half(0, 1), 8);
    }

    private static void howManyTables() {
        CHECK.holds("Promise 3", "how many TABLES.");
        StringBuilder text = new StringBuilder();
        for (int many = 1; many <= 12; many++) {
            text.append("table ").append("abcdefghjklm".charAt(many - 1)).append("[1]rows=i;");
            CHECK.reading(text.toString(), many);
        }
    }

    private static void thePlaceOfTheFault() {
        CHECK.holds("Promise 3", "-100 less the PLACE of the FAULT (THE TAPE and all else stay).");
        CHECK.reading("", -100);
        CHECK.reading("x", -100);
        CHECK.reading(" ".repeat(898) + "x", -998);
        CHECK.reading(" ".repeat(899) + "x", -999);
        CHECK.reading(" ".repeat(900), -1000);
        String ahead = " ".repeat(300);
        CHECK.faultAt(ahead + "table a[3]whole=^b[i];");
        CHECK.faultAt(ahead + "table a[3]" + ahead + "whole=i+^;");
        OfficeTables x = three();
        Checks.feed(x, "table d[3]whole=i;table e[3]whole=i");
        for (int k = 0; k < 3; k++) {
            due("read()", x.read(), -135);
            due("count(4)", x.count(4), 35);
            due("count(0)", x.count(0), 3);
            due("named(d)", x.named('d'), NONE);
            due("named(b)", x.named('b'), 1);
            due("state(0)", x.state(0), 2);
            due("state(1)", x.state(1), 3);
            due("state(2)", x.state(2), 0);
            due("row(0, 0)", x.row(0, 0), 2);
            due("row(0, 1)", x.row(0, 1), 3);
            due("builds()", x.builds(), 4);
            due("halves()", x.halves(), 9);
            reasons("REASONS", x, 1);
        }
        due("entry(0, 5)", x.entry(0, 5), 5);
        due("what is read is not built again", x.builds(), 4);
        due("feed(;)", x.feed(';'), 36);
        due("read() of the rest", x.read(), 2);
        Checks.feed(x, "table f[3]whole=z[0];");
        due("a NAME is told last", x.read(), -116);
        due("all else stays", x.named('e'), 1);
        due("the tape stays", x.cut(), 21);
    }

    // ---- Promise 4

    private static void cut() {
        CHECK.holds("Promise 4", "THE TAPE is empty: how many bytes it had.");
        OfficeTables x = three();
        due("cut() of none", x.cut(), 0);
        x.feed('x');
        due("cut() of one", x.cut(), 1);
        due("cut() again", x.cut(), 0);
        due("count(4)", x.count(4), 0);
        Checks.feed(x, "!".repeat(900));
        due("cut() of 900", x.cut(), 900);
        due("feed() behind it", x.feed(' '), 1);
        due("read() sees no byte of before", x.read(), -101);
        due("count(0) stays", x.count(0), 3);
        due("state(0) stays", x.state(0), 2);
        due("builds() stay", x.builds(), 4);
        due("halves() stay", x.halves(), 9);
        reasons("REASONS stay", x, 1);
    }

    // ---- Promise 5

    private static void named() {
        CHECK.holds("Promise 5", "The number of a TABLE by its NAME (letters, the first one lowest, 8 bits each)");
        OfficeTables x = Checks.of("table ab[1]whole=i;table ba[1]whole=i;table a[1]whole=i;table zzzzz[1]whole=i;table abcde[1]rows=i;");
        due("named(ab)", x.named('a' | 'b' << 8), 0);
        due("named(ba)", x.named('b' | 'a' << 8), 1);
        due("named(a)", x.named('a'), 2);
        due("named(zzzzz)", x.named(0x7A7A7A7A7AL), 3);
        due("named(abcde)", x.named(0x6564636261L), 4);
        CHECK.holds("Promise 5", "NONE.");
        long[] none = {0, -1, Long.MIN_VALUE, Long.MAX_VALUE, 'b', 'z', 'A', 'a' << 8, 'a' | 'b' << 16, 'a' | 1L << 63, 'a' | 1L << 32,
            'a' | 1L << 40, 0x7A7A7A7AL, 0x7A7A7A7A7A7AL, 0x7A7A7A7A7A7A7A7AL, 0x6162636465L, 0x64636261L, 0x656463L};
        for (long letters : none) {
            due("named(" + letters + ")", x.named(letters), NONE);
        }
        for (String word : new String[] {"table", "whole", "rows", "sum", "i"}) {
            due("named(" + word + ")", x.named(Checks.letters(word)), NONE);
        }
    }

    // ---- Promise 6

    private static void sizeAt(String size, int want) {
        due("size of " + size, Checks.of("table a[" + size + "]whole=i;").size(0), want);
    }

    private static void size() {
        CHECK.holds("Promise 6", "The SIZE of a TABLE (nothing WAKES), as an int (its lowest 32 bits).");
        sizeAt("0", 0);
        sizeAt("200", 200);
        sizeAt("201", 201);
        sizeAt("3-5", -2);
        sizeAt("999999", 999999);
        sizeAt("32768*65536-1", MAX);
        sizeAt("32768*65536", MIN);
        sizeAt("0-32768*65536", MIN);
        sizeAt("65536*65536", 0);
        sizeAt("65536*65536+7", 7);
        sizeAt("65536*65536-1", -1);
        sizeAt("65536*65536*65536*65536", 0);
        sizeAt("65536*32768*65536*65536+3", 3);
        OfficeTables x = three();
        due("size(0)", x.size(0), 20);
        due("size(1), FAILED", x.size(1), 201);
        due("size(2)", x.size(2), 9);
        due("state(2): nothing woke", x.state(2), 0);
        due("builds()", x.builds(), 4);
        reasons("REASONS stay", x, 1);
        CHECK.holds("Promise 6", "UNKNOWN.");
        for (int none : NO_TABLES_OF_THREE) {
            due("size(" + none + ")", x.size(none), UNKNOWN);
        }
    }

    // ---- Promise 7

    private static void state() {
        CHECK.holds("Promise 7", "A TABLE: 0 ASLEEP, 2 READY, 3 FAILED (by the last call, or one before).");
        OfficeTables x = Checks.of("table a[3]whole=i;table b[3]whole=i/0;table c[3]rows=i/0;table d[3]rows=b[0]sum 0;table e[0]rows=i;");
        for (int table = 0; table < 5; table++) {
            due("state(" + table + ")", x.state(table), 0);
        }
        x.entry(0, 0);
        due("state(0) READY", x.state(0), 2);
        x.entry(1, 0);
        due("state(1) FAILED by the last call", x.state(1), 3);
        x.entry(2, 0);
        due("state(1) FAILED by one before", x.state(1), 3);
        due("state(2) READY, its row FAILED", x.state(2), 2);
        x.entry(3, 0);
        due("state(3) FAILED", x.state(3), 3);
        x.entry(4, 0);
        due("state(4) READY, though a place of it FAILS", x.state(4), 2);
        x.drop(0);
        due("state(0) ASLEEP again", x.state(0), 0);
        CHECK.holds("Promise 7", "UNKNOWN.");
        x = three();
        for (int none : NO_TABLES_OF_THREE) {
            due("state(" + none + ")", x.state(none), UNKNOWN);
        }
    }

    // ---- Promise 8

    private static void row() {
        CHECK.holds("Promise 8", "A ROW: 0 ASLEEP, 2 READY, 3 FAILED.");
        OfficeTables x = three();
        due("row(0, 0)", x.row(0, 0), 2);
        due("row(0, 1)", x.row(0, 1), 3);
        due("row(0, 2)", x.row(0, 2), 0);
        CHECK.holds("Promise 8", "UNKNOWN; STATE: the TABLE is whole, or not READY; OUTSIDE: it has no such ROW.");
        for (int none : new int[] {-1, 3, 4, 24, 25, 26, MIN, MAX}) {
            due("row(0, " + none + ")", x.row(0, none), OUTSIDE);
            due("row(1, " + none + "): FAILED", x.row(1, none), STATE);
            due("row(2, " + none + "): ASLEEP", x.row(2, none), STATE);
        }
        due("row(1, 0)", x.row(1, 0), STATE);
        due("row(2, 0)", x.row(2, 0), STATE);
        for (int none : NO_TABLES_OF_THREE) {
            due("row(" + none + ", 0)", x.row(none, 0), UNKNOWN);
            due("row(" + none + ", -1)", x.row(none, -1), UNKNOWN);
        }
        x = Checks.of("table a[9]whole=i;table b[0]rows=i;table c[200]rows=i;table d[8]rows=i sum 28;");
        due("row(0, 0): whole, ASLEEP", x.row(0, 0), STATE);
        for (int table = 0; table < 4; table++) {
            x.entry(table, 0);
        }
        due("row(0, 0): whole, READY", x.row(0, 0), STATE);
        due("row(0, 2): whole, READY", x.row(0, 2), STATE);
        due("row(1, 0) of an empty one", x.row(1, 0), OUTSIDE);
        due("row(2, 24) of 200", x.row(2, 24), 0);
        due("row(2, 25) of 200", x.row(2, 25), OUTSIDE);
        due("row(3, 0) of 8", x.row(3, 0), 2);
        due("row(3, 1) of 8", x.row(3, 1), OUTSIDE);
        x.drop(3);
        due("row(3, 0) of one that is ASLEEP again", x.row(3, 0), STATE);
    }

    // ---- Promise 9

    private static void entry() {
        CHECK.holds("Promise 9", "An ENTRY is asked for: it; 0, if that FAILS, or there is no such TABLE.");
        OfficeTables x = Checks.of(POWERS + "table a[3]whole=7/i;table b[3]rows=i-1;");
        due("entry(0, 63)", x.entry(0, 63), Long.MIN_VALUE);
        due("entry(0, 62)", x.entry(0, 62), 1L << 62);
        due("entry(0, 64)", x.entry(0, 64), 0);
        due("entry(0, -1)", x.entry(0, -1), 0);
        due("entry(2, 0)", x.entry(2, 0), -1);
        due("entry(2, 1)", x.entry(2, 1), 0);
        reasons("0 that is well", x);
        due("entry(1, 2)", x.entry(1, 2), 0);
        reasons("0 as it FAILS", x, 1);
        for (int none : NO_TABLES_OF_THREE) {
            due("entry(" + none + ", 0)", x.entry(none, 0), 0);
            due("entry(" + none + ", -1)", x.entry(none, -1), 0);
        }
        CHECK.holds("Promise 9", "REASONS are those of this call then.");
        x.entry(1, 0);
        reasons("FAILED before", x, 6);
        x.entry(0, 64);
        reasons("another place that is none", x, 2);
        x.entry(0, 0);
        reasons("well", x);
        x.entry(1, 0);
        x.entry(3, 0);
        reasons("no such TABLE: nothing FAILED", x);
        x.entry(1, 0);
        x.entry(-1, 0);
        reasons("no such TABLE, -1", x);
    }

    // ---- Promise 10

    private static void reason() {
        CHECK.holds("Promise 10", "REASON k of the latest entry(), sum(), find() (0: the outermost)");
        OfficeTables x = Checks.of("table a[1]whole=b[0];table b[1]whole=c[0];table c[3-4]whole=i;table d[3]rows=i;");
        x.entry(0, 0);
        due("reason(0)", x.reason(0), 7);
        due("reason(1)", x.reason(1), 7);
        due("reason(2)", x.reason(2), 3);
        due("reason(2) again", x.reason(2), 3);
        x.state(0);
        x.size(3);
        x.feed('x');
        x.read();
        x.cut();
        x.drop(0);
        x.drop(3);
        x.count(2);
        x.row(3, 0);
        x.builds();
        x.sum(0, 1, 0, 0);
        x.find(4, 0);
        reasons("no other call changes them", x, 7, 7, 3);
        x.sum(0, 0, 0, 0);
        reasons("of sum()", x, 6);
        x.find(3, 2);
        reasons("of find()", x);
        x.sum(3, 0, 3, 0);
        reasons("of sum(), a place", x, 2);
        x.find(2, 0);
        reasons("of find(), FAILED before", x, 6);
        x.sum(3, 0, 2, 0);
        reasons("of sum(), well", x);
        x.entry(3, -1);
        reasons("of entry()", x, 2);
        CHECK.holds("Promise 10", "NONE: there are not so many (none: all went well).");
        for (int none : new int[] {-1, 1, 2, 11, 12, 13, MIN, MAX}) {
            due("reason(" + none + ")", x.reason(none), NONE);
        }
        x.entry(3, 1);
        for (int none : new int[] {-1, 0, 1, 12, MIN, MAX}) {
            due("reason(" + none + "), all went well", x.reason(none), NONE);
        }
        x = Checks.of("table p[200]rows=((i<8)?i:p[i-8]);");
        x.entry(0, 199);
        due("reason(10) of twelve", x.reason(10), 7);
        due("reason(11) of twelve", x.reason(11), 8);
        for (int none : new int[] {-1, 12, 13, MIN, MAX}) {
            due("reason(" + none + ") of twelve", x.reason(none), NONE);
        }
    }

    // ---- Promise 11

    private static void parts(OfficeTables x, int table, int from, int to, long lowest, long middle, long highest) {
        String sum = "sum(" + table + ", " + from + ", " + to + ", ";
        due(sum + "0)", x.sum(table, from, to, 0), lowest);
        due(sum + "1)", x.sum(table, from, to, 1), middle);
        due(sum + "2)", x.sum(table, from, to, 2), highest);
        reasons(sum + "2)", x);
    }

    private static void partsOfASum() {
        CHECK.holds("Promise 11", "part k of their exact sum (0 to 2: 32 bits each, the lowest first, as an unsigned number;"
            + " below 0 as if it had more places than parts, all told).");
        OfficeTables x = Checks.of(POWERS + "table least[200]rows=p[63];table most[200]whole=-1-p[63];table one[200]rows=-1;"
            + "table back[65]whole=(i?p[i-1]:1);table a[3]whole=(i?-p[31]:p[32])+(i-1)*2;");
        parts(x, 0, 0, 0, 1, 0, 0);
        parts(x, 0, 0, 31, ALL_ONES, 0, 0);
        parts(x, 0, 31, 31, 2147483648L, 0, 0);
        parts(x, 0, 32, 32, 0, 1, 0);
        parts(x, 0, 0, 62, ALL_ONES, 2147483647L, 0);
        parts(x, 0, 63, 63, 0, 2147483648L, ALL_ONES);
        parts(x, 0, 0, 63, ALL_ONES, ALL_ONES, ALL_ONES);
        parts(x, 1, 0, 1, 0, 0, ALL_ONES);
        parts(x, 1, 0, 2, 0, 2147483648L, ALL_ONES - 1);
        parts(x, 1, 0, 199, 0, 0, ALL_ONES - 99);
        parts(x, 2, 0, 1, ALL_ONES - 1, ALL_ONES, 0);
        parts(x, 2, 0, 2, ALL_ONES - 2, 2147483647L, 1);
        parts(x, 2, 0, 199, ALL_ONES - 199, ALL_ONES, 99);
        parts(x, 3, 0, 0, ALL_ONES, ALL_ONES, ALL_ONES);
        parts(x, 3, 0, 199, ALL_ONES - 199, ALL_ONES, ALL_ONES);
        parts(x, 4, 0, 64, 0, 0, 0);
        parts(x, 5, 0, 0, ALL_ONES - 1, 0, 0);
        parts(x, 5, 0, 2, 0, 0, 0);
    }

    private static void entriesFromTo() {
        CHECK.holds("Promise 11", "ENTRIES from .. to of a TABLE are asked for from the lowest on");
        OfficeTables x = Checks.of("table a[40]rows=i*i;table b[9]whole=i;table c[20]rows=1/(i-12)+i;");
        due("sum(0, 6, 9, 0)", x.sum(0, 6, 9, 0), 36 + 49 + 64 + 81);
        CHECK.builds("rows 0 and 1", x, new int[] {0, NONE, NONE}, new int[] {0, 0, NONE}, new int[] {0, 1, NONE});
        due("sum(0, 32, 32, 0)", x.sum(0, 32, 32, 0), 1024);
        due("sum(0, 39, 39, 0)", x.sum(0, 39, 39, 0), 1521);
        due("rows made", x.builds(), 4);
        due("sum(1, 0, 8, 0)", x.sum(1, 0, 8, 0), 36);
        due("sum(1, 8, 8, 0)", x.sum(1, 8, 8, 0), 8);
        CHECK.holds("Promise 11", "0, if one FAILS.");
        for (int k = 0; k < 3; k++) {
            due("sum(1, 5, 9, " + k + ")", x.sum(1, 5, 9, k), 0);
            reasons("the last place is none", x, 2);
            due("sum(1, -1, 3, " + k + ")", x.sum(1, -1, 3, k), 0);
            reasons("the first place is none", x, 2);
        }
        due("sum(2, 0, 15, 0)", x.sum(2, 0, 15, 0), 0);
        reasons("row 1", x, 1);
        due("row 0 was made ahead", x.row(2, 0), 2);
        due("row 1 FAILED", x.row(2, 1), 3);
        due("sum(2, 7, 16, 0)", x.sum(2, 7, 16, 0), 0);
        reasons("row 1, FAILED before", x, 6);
        due("row 2, behind what FAILED, is not asked for", x.row(2, 2), 0);
        due("sum(2, 1, 7, 0)", x.sum(2, 1, 7, 0), 28);
        reasons("row 0 alone", x);
        due("sum(2, MIN, MIN, 0)", x.sum(2, MIN, MIN, 0), 0);
        reasons("far below", x, 2);
        due("sum(2, MAX, MAX, 0)", x.sum(2, MAX, MAX, 0), 0);
        reasons("far above", x, 2);
        x = Checks.of("table a[201]whole=i;table b[9]rows=i;");
        due("sum(0, 0, 0, 0)", x.sum(0, 0, 0, 0), 0);
        reasons("it WAKES and FAILS", x, 4);
        due("sum(1, 9, 12, 0)", x.sum(1, 9, 12, 0), 0);
        due("it WAKES for a place that is none", x.state(1), 2);
    }

    private static void refusedSums() {
        CHECK.holds("Promise 11", "UNKNOWN; OUTSIDE: k, or to is below from, or above from + 1000.");
        OfficeTables x = three();
        for (int none : NO_TABLES_OF_THREE) {
            due("sum(" + none + ", 0, 0, 0)", x.sum(none, 0, 0, 0), UNKNOWN);
            due("sum(" + none + ", 1, 0, 3)", x.sum(none, 1, 0, 3), UNKNOWN);
        }
        for (int k : new int[] {-1, 3, 4, 32, MIN, MAX}) {
            due("sum(2, 0, 0, " + k + ")", x.sum(2, 0, 0, k), OUTSIDE);
        }
        int[][] outside = {{0, -1}, {1, 0}, {8, 7}, {0, 1001}, {-1, 1000}, {-1000, 1}, {7, 1008}, {MIN, MAX}, {MAX, MIN}, {0, MIN},
            {MIN, 0}, {MAX, -1}, {-1, MIN}, {MAX, 0}, {0, MAX}, {MIN, MIN + 1001}, {MAX - 1001, MAX}, {MAX, MAX - 1}, {MIN + 1, MIN}};
        for (int[] one : outside) {
            due("sum(2, " + one[0] + ", " + one[1] + ", 0)", x.sum(2, one[0], one[1], 0), OUTSIDE);
        }
        due("nothing woke", x.state(2), 0);
        reasons("REASONS stay", x, 1);
        int[][] inside = {{0, 1000}, {-1, 999}, {-1000, 0}, {7, 1007}, {MIN, MIN}, {MIN, MIN + 1000}, {MAX - 1000, MAX}, {MAX, MAX},
            {MAX - 999, MAX}};
        for (int[] one : inside) {
            due("sum(2, " + one[0] + ", " + one[1] + ", 2)", x.sum(2, one[0], one[1], 2), 0);
            reasons("asked for from " + one[0] + " to " + one[1], x, 2);
        }
    }

    // ---- Promise 12

    private static void find() {
        CHECK.holds("Promise 12", "The least place of a TABLE (it WAKES, if it is ASLEEP; then its ENTRIES are asked for from 0 on,"
            + " till it is found) with a number");
        OfficeTables x = Checks.of(POWERS + "table a[20]rows=i%9-4;table b[9]whole=i/3;table c[0]rows=i;table d[0]whole=i;");
        due("find(1, -4)", x.find(1, -4), 0);
        due("find(1, 3)", x.find(1, 3), 7);
        CHECK.builds("row 0 alone", x, new int[] {1, NONE, NONE}, new int[] {1, 0, NONE});
        due("find(1, 4)", x.find(1, 4), 8);
        due("row 2 is not asked for", x.row(1, 2), 0);
        due("find(2, 1)", x.find(2, 1), 3);
        due("find(2, 2)", x.find(2, 2), 6);
        due("state(2)", x.state(2), 2);
        due("find(0, least)", x.find(0, Long.MIN_VALUE), 63);
        due("find(0, 2 to the 32)", x.find(0, 1L << 32), 32);
        CHECK.holds("Promise 12", "NONE: there is none");
        due("find(1, 5)", x.find(1, 5), NONE);
        reasons("all went well", x);
        due("row 2 is asked for", x.row(1, 2), 2);
        due("find(0, 0), also if 32 bits are", x.find(0, 0), NONE);
        due("find(2, -1)", x.find(2, -1), NONE);
        due("find(3, 0)", x.find(3, 0), NONE);
        due("it WAKES, though it is empty", x.state(3), 2);
        due("find(4, 0)", x.find(4, 0), NONE);
        due("state(4)", x.state(4), 2);
        CHECK.holds("Promise 12", "-10: one FAILS.");
        x = Checks.of("table a[20]rows=i+7/(i-12);table b[9]whole=i+1/(i-8);table c[1-2]rows=i;table d[0]whole=i sum 1;"
            + "table e[8]rows=i sum 28;table f[201]whole=i;table g[1]whole=a[12];");
        due("find(0, 6), ahead of what FAILS", x.find(0, 6), 7);
        due("find(0, 16)", x.find(0, 16), -10);
        reasons("row 1", x, 1);
        due("find(0, 19)", x.find(0, 19), -10);
        reasons("row 1, FAILED before", x, 6);
        due("row 2 is not asked for", x.row(0, 2), 0);
        due("find(0, 6) again", x.find(0, 6), 7);
        reasons("well again", x);
        int[] failing = {1, 2, 3, 5};
        int[] why = {1, 3, 5, 4};
        for (int k = 0; k < failing.length; k++) {
            due("find(" + failing[k] + ", 0)", x.find(failing[k], 0), -10);
            reasons("as it WAKES", x, why[k]);
            due("find(" + failing[k] + ", 0) again", x.find(failing[k], 0), -10);
            reasons("FAILED before", x, 6);
        }
        due("find(4, 7)", x.find(4, 7), 7);
        due("find(4, 8)", x.find(4, 8), NONE);
        due("find(6, 0)", x.find(6, 0), -10);
        reasons("what leans on a FAILED row", x, 6);
        CHECK.holds("Promise 12", "UNKNOWN.");
        x = three();
        for (int none : NO_TABLES_OF_THREE) {
            due("find(" + none + ", 0)", x.find(none, 0), UNKNOWN);
        }
    }

    // ---- Promise 13

    private static void drop() {
        CHECK.holds("Promise 13", "A READY TABLE is let go: it is ASLEEP again, with all its ROWS (FAILED ones, too):"
            + " how many entries it had.");
        OfficeTables x = three();
        due("drop(0)", x.drop(0), 20);
        due("state(0)", x.state(0), 0);
        due("count(1)", x.count(1), 0);
        due("count(3)", x.count(3), 0);
        due("row(0, 0)", x.row(0, 0), STATE);
        due("builds() stay", x.builds(), 4);
        due("halves() stay", x.halves(), 9);
        reasons("REASONS stay", x, 1);
        x.entry(0, 20);
        due("row(0, 0) that was READY", x.row(0, 0), 0);
        due("row(0, 1) that was FAILED", x.row(0, 1), 0);
        due("entry(0, 8)", x.entry(0, 8), 0);
        reasons("it is made once more", x, 1);
        due("entry(0, 7)", x.entry(0, 7), 7);
        due("it read a 0 again", x.half(x.halves() - 1, 3), 0);
        x = Checks.of("table a[0]whole=i;table b[200]whole=i;table c[200]rows=i sum 19900;table d[1]whole=b[5];table e[1]rows=i;");
        for (int table = 0; table < 5; table++) {
            x.entry(table, 0);
        }
        due("drop(0) of an empty one", x.drop(0), 0);
        due("drop(1)", x.drop(1), 200);
        due("drop(2)", x.drop(2), 200);
        due("drop(4)", x.drop(4), 1);
        due("what leans on it stays READY", x.entry(3, 0), 5);
        due("and does not WAKE it", x.state(1), 0);
        due("entry(1, 199)", x.entry(1, 199), 199);
        due("state(1) READY again", x.state(1), 2);
        CHECK.holds("Promise 13", "UNKNOWN; STATE: it is not READY.");
        due("drop(0) that is ASLEEP", x.drop(0), STATE);
        due("drop(4) twice", x.drop(4), STATE);
        x = three();
        due("drop(1) that is FAILED", x.drop(1), STATE);
        due("state(1) stays", x.state(1), 3);
        due("drop(2) that never woke", x.drop(2), STATE);
        for (int none : NO_TABLES_OF_THREE) {
            due("drop(" + none + ")", x.drop(none), UNKNOWN);
        }
    }

    // ---- Promises 14 to 17

    private static void builds() {
        CHECK.holds("Promise 14", "How many BUILDS there were (all, also beyond those kept).");
        OfficeTables x = Checks.of("table a[200]rows=i;table b[9]whole=i;");
        due("builds() of none", x.builds(), 0);
        for (int times = 1; times <= 9; times++) {
            x.find(0, -1);
            due("builds(), " + times, x.builds(), 26 * times);
            x.drop(0);
        }
        x.entry(1, 0);
        due("builds() of another one", x.builds(), 26 * 9 + 1);
        CHECK.holds("Promise 15", "UNKNOWN: also if it is not kept; OUTSIDE.");
        for (int what = -1; what < 4; what++) {
            int asWhat = what == 0 ? 0 : what == 1 ? 20 : what == 2 ? NONE : OUTSIDE;
            due("build(99, " + what + ")", x.build(99, what), asWhat);
            due("build(100, " + what + ")", x.build(100, what), UNKNOWN);
            due("build(234, " + what + ")", x.build(234, what), UNKNOWN);
            due("build(235, " + what + ")", x.build(235, what), UNKNOWN);
        }
    }

    private static void build() {
        CHECK.holds("Promise 15", "Of BUILD i: the TABLE (what = 0), the ROW (1; NONE: the TABLE woke), who asked for it"
            + " (2: the TABLE whose entry was made; NONE: a call, or its own promised sum).");
        OfficeTables x = Checks.of("table a[9]rows=b[i];table b[9]rows=c[i]sum 36;table c[9]whole=d[i];table d[9]rows=(i/8?d[0]:i)+i/8*8;");
        due("sum(0, 0, 8, 0)", x.sum(0, 0, 8, 0), 36);
        CHECK.builds("as asked for", x, new int[] {0, NONE, NONE}, new int[] {0, 0, NONE}, new int[] {1, NONE, 0},
            new int[] {1, 0, NONE}, new int[] {2, NONE, 1}, new int[] {3, NONE, 2}, new int[] {3, 0, 2}, new int[] {3, 1, 2},
            new int[] {1, 1, NONE}, new int[] {0, 1, NONE});
        x = Checks.of("table d[9]rows=((i<8)?d[8]:i);");
        x.entry(0, 0);
        CHECK.builds("a row of its own", x, new int[] {0, NONE, NONE}, new int[] {0, 0, NONE}, new int[] {0, 1, 0});
        CHECK.holds("Promise 15", "UNKNOWN: also if it is not kept; OUTSIDE.");
        for (int what : new int[] {-1, 3, 4, MIN, MAX}) {
            due("build(0, " + what + ")", x.build(0, what), OUTSIDE);
            due("build(2, " + what + ")", x.build(2, what), OUTSIDE);
            due("build(3, " + what + ")", x.build(3, what), UNKNOWN);
        }
        for (int i : new int[] {-1, 3, 99, 100, MIN, MAX}) {
            due("build(" + i + ", 0)", x.build(i, 0), UNKNOWN);
        }
    }

    private static void halves() {
        CHECK.holds("Promise 16", "How many HALVES there were.");
        OfficeTables x = Checks.of("table a[130]whole=a[i]+a[0]+i+1;table b[1]whole=a[7];");
        due("halves() of none", x.halves(), 0);
        x.entry(1, 0);
        due("halves()", x.halves(), 260);
        x.entry(0, 5);
        due("of a READY one are none", x.halves(), 260);
        x.drop(0);
        x.entry(0, 0);
        due("halves() more", x.halves(), 520);
        CHECK.holds("Promise 17", "Of HALF i: the TABLE (what = 0), the place (1), who read (2), what was there (3).");
        due("half(98, 1)", x.half(98, 1), 49);
        due("half(98, 3)", x.half(98, 3), 0);
        due("half(99, 0)", x.half(99, 0), 0);
        due("half(99, 1)", x.half(99, 1), 0);
        due("half(99, 2)", x.half(99, 2), 0);
        due("half(99, 3)", x.half(99, 3), 1);
        CHECK.holds("Promise 17", "UNKNOWN: also if it is not kept; OUTSIDE (told as longs).");
        for (int what = -1; what < 5; what++) {
            due("half(100, " + what + ")", x.half(100, what), UNKNOWN);
            due("half(519, " + what + ")", x.half(519, what), UNKNOWN);
            due("half(520, " + what + ")", x.half(520, what), UNKNOWN);
        }
        for (int what : new int[] {-1, 4, 5, MIN, MAX}) {
            due("half(0, " + what + ")", x.half(0, what), OUTSIDE);
            due("half(99, " + what + ")", x.half(99, what), OUTSIDE);
            due("half(-1, " + what + ")", x.half(-1, what), UNKNOWN);
        }
        for (int i : new int[] {-1, 100, MIN, MAX}) {
            due("half(" + i + ", 0)", x.half(i, 0), UNKNOWN);
        }
    }

    private static void half() {
        CHECK.holds("Promise 17", "Of HALF i: the TABLE (what = 0), the place (1), who read (2), what was there (3).");
        OfficeTables x = Checks.of(POWERS + "table a[2]whole=(i?b[0]:p[63]);table b[2]whole=a[0]+a[i]-p[63]-i;");
        due("entry(1, 1)", x.entry(1, 1), Long.MIN_VALUE);
        due("halves()", x.halves(), 63 + 4);
        due("half(0, 0)", x.half(0, 0), 0);
        due("half(0, 1)", x.half(0, 1), 0);
        due("half(0, 2)", x.half(0, 2), 0);
        due("half(0, 3)", x.half(0, 3), 1);
        due("half(62, 1)", x.half(62, 1), 62);
        due("half(62, 3): all its bits", x.half(62, 3), 1L << 62);
        due("half(63, 0)", x.half(63, 0), 1);
        due("half(63, 1)", x.half(63, 1), 0);
        due("half(63, 2)", x.half(63, 2), 2);
        due("half(63, 3): below 0", x.half(63, 3), Long.MIN_VALUE);
        due("half(66, 1)", x.half(66, 1), 1);
        due("half(66, 3)", x.half(66, 3), 0);
        due("half(67, 0)", x.half(67, 0), UNKNOWN);
    }

    // ---- Promise 18

    private static void reads() {
        CHECK.holds("Promise 18", "Whether a TABLE's SUM names another one (or itself) at all: 1, 0 (# does not count).");
        OfficeTables x = Checks.of("table a[3]whole=#b+(1?2:c[i]);table b[#a]whole=b[i]+#a+0*#c;"
            + "table c[#a]rows=-a[b[0]]sum 2;table d[3]whole=0+1+2+3+i;table e[3]rows=(0?e[0]:(1<e[d[i]]));");
        int[][] want = {{0, 0, 1, 0, 0}, {0, 1, 0, 0, 0}, {1, 1, 0, 0, 0}, {0, 0, 0, 0, 0}, {0, 0, 0, 1, 1}};
        for (int table = 0; table < 5; table++) {
            for (int other = 0; other < 5; other++) {
                due("reads(" + table + ", " + other + ")", x.reads(table, other), want[table][other]);
            }
        }
        due("nothing WAKES", x.builds(), 0);
        x.find(1, 0);
        due("reads(1, 1) of a READY one", x.reads(1, 1), 1);
        CHECK.holds("Promise 18", "UNKNOWN.");
        x = three();
        for (int none : NO_TABLES_OF_THREE) {
            due("reads(" + none + ", 0)", x.reads(none, 0), UNKNOWN);
            due("reads(0, " + none + ")", x.reads(0, none), UNKNOWN);
            due("reads(" + none + ", " + none + ")", x.reads(none, none), UNKNOWN);
        }
    }

    // ---- Promise 19

    private static void count() {
        CHECK.holds("Promise 19", "0 TABLES, 1 READY ones, 2 FAILED ones, 3 entries of READY ones together (by rows those of READY ROWS"
            + " alone), 4 bytes of THE TAPE.");
        OfficeTables x = Checks.of("table a[20]rows=i+7/(i-12);table b[9]whole=i;table c[201]whole=i;table d[0]whole=i;table e[9]rows=i/0"
            + " sum 0;table f[1]whole=c[0];table g[3]rows=i;");
        int[][] asked = {{0, 0, 1, 0, 8}, {0, 12, 1, 0, 8}, {0, 19, 1, 0, 12}, {1, 0, 2, 0, 21}, {2, 0, 2, 1, 21}, {3, 0, 3, 1, 21},
            {4, 0, 3, 2, 21}, {5, 0, 3, 3, 21}, {6, 3, 4, 3, 21}, {6, 0, 4, 3, 24}};
        due("count(1) ahead", x.count(1), 0);
        due("count(2) ahead", x.count(2), 0);
        due("count(3) ahead", x.count(3), 0);
        for (int[] one : asked) {
            x.entry(one[0], one[1]);
            String when = " after entry(" + one[0] + ", " + one[1] + ")";
            due("count(0)" + when, x.count(0), 7);
            due("count(1)" + when, x.count(1), one[2]);
            due("count(2)" + when, x.count(2), one[3]);
            due("count(3)" + when, x.count(3), one[4]);
        }
        x.drop(0);
        due("count(1) after drop()", x.count(1), 3);
        due("count(3) after drop()", x.count(3), 12);
        due("count(4)", x.count(4), 0);
        Checks.feed(x, "z".repeat(900));
        due("count(4) of 900", x.count(4), 900);
        StringBuilder twelve = new StringBuilder();
        for (int k = 0; k < 12; k++) {
            twelve.append("table ").append("abcdefghjklm".charAt(k)).append(k % 2 == 0 ? "[200]rows=i;" : "[200]whole=i;");
        }
        x = Checks.of(twelve.toString());
        for (int table = 0; table < 12; table++) {
            x.find(table, -1);
        }
        due("count(0) of 12", x.count(0), 12);
        due("count(1) of 12", x.count(1), 12);
        due("count(3) of 12", x.count(3), 2400);
        CHECK.holds("Promise 19", "OUTSIDE.");
        for (int what : new int[] {-1, 5, 6, MIN, MAX}) {
            due("count(" + what + ")", x.count(what), OUTSIDE);
            due("count(" + what + ") of a new one", new OfficeTables().count(what), OUTSIDE);
        }
    }

    public static void main(String[] args) {
        aNewObject();
        theLowestFirst();
        asFarAsTheyAreNotZero();
        full();
        tablesInsteadOfThoseBefore();
        nothingOfTextsBefore();
        allAsleep();
        noBuildsHalvesReasons();
        howManyTables();
        thePlaceOfTheFault();
        cut();
        named();
        size();
        state();
        row();
        entry();
        reason();
        partsOfASum();
        entriesFromTo();
        refusedSums();
        find();
        drop();
        builds();
        build();
        halves();
        half();
        reads();
        count();
        CHECK.end("PromisesTest");
    }
}
