/** Sections 2 and 3 of the document, sentence by sentence: each test names the one that it holds. */
public final class WakingTest {
    private static final Checks CHECK = new Checks();
    private static final String MAKING = "Section 2", DONE = "Section 3";
    private static final int NONE = OfficeTables.NONE;
    /** p[k] is 2 to the k, p[63] the least number. */
    private static final String POWERS = "table p[64]whole=((i<1)?1:p[i-1]*2);";
    private static final long LEAST = Long.MIN_VALUE, MOST = Long.MAX_VALUE;
    /** Eleven tables, each of one entry, that ask for the next one's; m is for the test to tell. */
    private static final String ELEVEN = "table a[1]whole=b[0];table b[1]whole=c[0];table c[1]whole=d[0];table d[1]whole=e[0];"
        + "table e[1]whole=f[0];table f[1]whole=g[0];table g[1]whole=h[0];table h[1]whole=j[0];table j[1]whole=k[0];"
        + "table k[1]whole=l[0];table l[1]whole=m[0];";
    private static final int M = 11;

    private static void due(String call, long got, long want) {
        CHECK.due(call, got, want);
    }

    private static void reasons(String when, OfficeTables x, int... want) {
        CHECK.reasons(when, x, want);
    }

    private static void builds(String when, OfficeTables x, int[]... want) {
        CHECK.builds(when, x, want);
    }

    private static void halves(String when, OfficeTables x, long[]... want) {
        CHECK.halves(when, x, want);
    }

    private static int[] build(int table, int row, int asker) {
        return new int[] {table, row, asker};
    }

    private static long[] half(long table, long place, long reader, long there) {
        return new long[] {table, place, reader, there};
    }

    /** The entry fails by these reasons, the outermost first. */
    private static void fails(OfficeTables x, int table, int place, int... want) {
        String call = "entry(" + table + ", " + place + ")";
        due(call, x.entry(table, place), 0);
        reasons(call, x, want);
    }

    private static void goesWell(OfficeTables x, int table, int place, long want) {
        String call = "entry(" + table + ", " + place + ")";
        due(call, x.entry(table, place), want);
        reasons(call, x);
    }

    /** What a sum is worth at place 0 of a table, in which p has the powers of 2. */
    private static void worth(String sum, long want) {
        OfficeTables x = Checks.of(POWERS + "table x[1]whole=" + sum + ";");
        due(sum, x.entry(1, 0), want);
        reasons(sum, x);
    }

    private static void sumFails(String sum, int... want) {
        OfficeTables x = Checks.of(POWERS + "table x[1]whole=" + sum + ";");
        due(sum, x.entry(1, 0), 0);
        reasons(sum, x, want);
    }

    // ---- Section 2: numbers

    private static void numbersAreSixtyFourBits() {
        CHECK.holds(MAKING, "Numbers are 64 bits, wrapping.");
        worth("p[63]", LEAST);
        worth("p[62]+(p[62]-1)", MOST);
        worth("p[62]+p[62]", LEAST);
        worth("p[63]-1", MOST);
        worth("-1-p[63]", MOST);
        worth("-1-p[63]+1", LEAST);
        worth("-p[63]", LEAST);
        worth("p[62]*2", LEAST);
        worth("p[32]*p[32]", 0);
        worth("p[63]*p[63]", 0);
        worth("(p[63]-1)*(p[63]-1)", 1);
        worth("p[31]", 2147483648L);
        worth("p[32]-1", 4294967295L);
        worth("999999*999999*999999*999999", 999999L * 999999L * 999999L * 999999L);
        OfficeTables x = Checks.of("table a[999999*999999*999999*999999]whole=i;table b[1]whole=#a;");
        due("a SIZE wraps too", x.entry(1, 0), 999999L * 999999L * 999999L * 999999L);
    }

    private static void placesAndSizes() {
        CHECK.holds(MAKING, "i is the place of the entry");
        OfficeTables x = Checks.of("table a[200]whole=i;table b[200]rows=i;table c[3]whole=a[i+1];");
        for (int place : new int[] {0, 1, 7, 8, 9, 15, 16, 199}) {
            due("whole", x.entry(0, place), place);
            due("by rows", x.entry(1, place), place);
        }
        due("i in [ ] is of the table that asks", x.entry(2, 2), 3);
        CHECK.holds(MAKING, "# NAME the SIZE of a TABLE");
        x = Checks.of("table a[1]whole=#b*1000+#c*100+#d*10+#a;table b[0]whole=i;table c[2-4]whole=i;table d[201]whole=i;"
            + "table e[999999*999999]rows=#e;table f[1]whole=#e;");
        due("of an empty one, below 0, above 200, its own", x.entry(0, 0), -200 + 2010 + 1);
        due("all its bits", x.entry(5, 0), 999998000001L);
        due("none of them woke", x.builds(), 2);
        fails(x, 3, 0, 4);
        due("of a FAILED one", Checks.of("table d[201]whole=i;table a[1]whole=d[0]+#d;").entry(1, 0), 0);
        x = Checks.of("table d[201]whole=i;table a[1]whole=#d;");
        fails(x, 0, 0, 4);
        goesWell(x, 1, 0, 201);
    }

    private static void divisions() {
        CHECK.holds(MAKING, "/ and % as the language has them");
        worth("7/2", 3);
        worth("-7/2", -3);
        worth("7/-2", -3);
        worth("-7/-2", 3);
        worth("7%3", 1);
        worth("-7%3", -1);
        worth("7%-3", 1);
        worth("0/7+0%7", 0);
        worth("p[63]/-1", LEAST);
        worth("p[63]%-1", 0);
        worth("p[63]/1", LEAST);
        worth("(p[63]-1)/p[63]", 0);
        CHECK.holds(MAKING, "Other FAILURES: / or % by 0 (1)");
        sumFails("7/0", 1);
        sumFails("7%0", 1);
        sumFails("0/0", 1);
        sumFails("0%0", 1);
        sumFails("p[63]/(i-i)", 1);
        sumFails("7/(p[32]*p[32])", 1);
        worth("7/p[32]", 0);
        worth("7%p[32]", 7);
    }

    private static void lessAndChoice() {
        CHECK.holds(MAKING, "< is 1 or 0");
        worth("(1<2)", 1);
        worth("(2<2)", 0);
        worth("(3<2)", 0);
        worth("(-1<0)", 1);
        worth("(0<-1)", 0);
        worth("(p[63]<p[63]-1)", 1);
        worth("(p[63]-1<p[63])", 0);
        worth("(p[32]<1)", 0);
        CHECK.holds(MAKING, "? takes the first SUM that is behind it, if what is ahead is not 0, else the other one");
        worth("(0?5:6)", 6);
        worth("(1?5:6)", 5);
        worth("(2?5:6)", 5);
        worth("(-1?5:6)", 5);
        worth("(p[32]?5:6)", 5);
        worth("(p[63]?5:6)", 5);
        worth("(p[32]*p[32]?5:6)", 6);
        worth("((0?0:1)?(1?2:3):(1?4:5))", 2);
        worth("1+(0?2:3)*4", 13);
        CHECK.holds(MAKING, "(only that one is worked out)");
        worth("(1?5:1/0)", 5);
        worth("(0?1/0:6)", 6);
        OfficeTables x = Checks.of("table a[2]whole=(i?b[0]:c[0]);table b[1]whole=7;table c[1]rows=8;table d[1]whole=(1?2:b[0]);");
        goesWell(x, 3, 0, 2);
        due("b is asleep", x.state(1), 0);
        goesWell(x, 0, 0, 8);
        builds("c at place 0, b at place 1", x, build(3, NONE, NONE), build(0, NONE, NONE), build(2, NONE, 0), build(2, 0, 0),
            build(1, NONE, 0));
    }

    private static void theEntryAtAPlace() {
        CHECK.holds(MAKING, "NAME [ SUM ]: the entry of a TABLE at a place.");
        worth("p[p[p[1]]+p[0]]", 32);
        worth("p[63-0]", LEAST);
        sumFails("p[64]", 2);
        sumFails("p[-1]", 2);
        sumFails("p[p[32]]", 2);
        sumFails("p[p[63]]", 2);
        sumFails("p[p[32]+1]", 2);
    }

    private static void allFromTheLeft() {
        CHECK.holds(MAKING, "All is worked out from the left.");
        worth("9-3-2", 4);
        worth("9-3+2", 8);
        worth("100/10/5", 2);
        worth("7*5/3%4*2", 6);
        worth("2+3*4-6/2", 11);
        worth("-7%3*-2", 2);
        worth("--7--7", 14);
        OfficeTables x = Checks.of("table x[1]whole=c[0]+b[0]*a[0];table a[1]whole=i;table b[1]whole=i;table c[1]whole=i;");
        x.entry(0, 0);
        builds("c, b, a, also if * is ahead of +", x, build(0, NONE, NONE), build(3, NONE, 0), build(2, NONE, 0),
            build(1, NONE, 0));
        x = Checks.of("table x[1]whole=(b[0]<a[0]);table a[1]whole=i;table b[1]whole=i;");
        x.entry(0, 0);
        builds("b, a", x, build(0, NONE, NONE), build(2, NONE, 0), build(1, NONE, 0));
        x = Checks.of("table x[1]whole=(b[0]?a[0]:c[0]);table a[1]whole=i;table b[1]whole=1;table c[1]whole=i;");
        x.entry(0, 0);
        builds("b, a", x, build(0, NONE, NONE), build(2, NONE, 0), build(1, NONE, 0));
        x = Checks.of("table x[1]whole=b[a[0]];table a[1]whole=i;table b[1]whole=i;");
        x.entry(0, 0);
        builds("a place is worked out ahead of what is asked for there", x, build(0, NONE, NONE), build(1, NONE, 0),
            build(2, NONE, 0));
        x = Checks.of("table x[1]whole=1/0+a[9];table a[1]whole=i;");
        fails(x, 0, 0, 1);
        due("a is asleep", x.state(1), 0);
        x = Checks.of("table x[1]whole=a[9]/0;table a[1]whole=i;");
        fails(x, 0, 0, 2);
        x = Checks.of("table x[1]whole=b[1/0];table b[1]whole=i;");
        fails(x, 0, 0, 1);
        due("b is asleep", x.state(1), 0);
    }

    // ---- Section 2: waking

    private static void itWakes() {
        CHECK.holds(MAKING, "A TABLE is ASLEEP (at first), UNDER WAY, READY or FAILED.");
        OfficeTables x = Checks.of("table a[3]whole=i;table b[3]rows=i;table c[3]whole=i/0;");
        for (int table = 0; table < 3; table++) {
            due("state(" + table + ")", x.state(table), 0);
        }
        CHECK.holds(MAKING, "It WAKES, when it is ASLEEP and an entry of it is asked for (by a call, or from another one's SUM),"
            + " ahead of all else: it is UNDER WAY");
        for (int place : new int[] {0, 2, 3, -1, Integer.MAX_VALUE, Integer.MIN_VALUE}) {
            x = Checks.of("table a[3]whole=i;");
            x.entry(0, place);
            due("entry(0, " + place + ") wakes", x.state(0), 2);
            x = Checks.of("table a[3]rows=i;");
            x.sum(0, place, place, 0);
            due("sum(0, " + place + ", " + place + ", 0) wakes", x.state(0), 2);
        }
        for (String place : new String[] {"0", "2", "3", "-1", "999999", "-999999*999999"}) {
            x = Checks.of("table a[3]rows=i;table x[1]whole=a[" + place + "];");
            x.entry(1, 0);
            due("a[" + place + "] wakes", x.state(0), 2);
        }
        x = Checks.of("table a[3-4]whole=i;");
        fails(x, 0, 7, 3);
        x = Checks.of("table a[3]whole=i sum 4;");
        fails(x, 0, 7, 5);
        x = Checks.of("table a[3]whole=1/0;");
        fails(x, 0, -7, 1);
        x = Checks.of("table a[3]whole=i;table b[2]rows=i;");
        x.named('a');
        x.size(0);
        x.state(0);
        x.row(1, 0);
        x.reads(0, 1);
        x.count(3);
        x.drop(0);
        due("no other call wakes", x.state(0) + x.state(1) + x.builds(), 0);
        x = Checks.of("table a[2]whole=a[i]+a[5];");
        fails(x, 0, 0, 2);
        builds("what is UNDER WAY does not WAKE again", x, build(0, NONE, NONE));
    }

    private static void itHasSizeEntries() {
        CHECK.holds(MAKING, "it has SIZE entries, all 0 (SIZE FAILS: below 0: REASON 3; above 200: 4)");
        for (String manner : new String[] {"whole", "rows"}) {
            OfficeTables x = Checks.of("table a[0]" + manner + "=1/0;table b[1]" + manner + "=7;table c[200]" + manner + "=i;"
                + "table d[201]" + manner + "=i;table e[1-2]" + manner + "=i;table f[999999*999999]" + manner + "=i;"
                + "table g[3-999999*999999]" + manner + "=i;table h[65536*65536]" + manner + "=i;"
                + "table j[65536*65536+5]" + manner + "=i;table k[1-65537*65536+5]" + manner + "=i;"
                + "table l[65536*32768*65536*65536]" + manner + "=i;table m[65536*32768]" + manner + "=i;");
            fails(x, 0, 0, 2);
            due("SIZE 0 is READY", x.state(0), 2);
            goesWell(x, 1, 0, 7);
            fails(x, 1, 1, 2);
            goesWell(x, 2, 199, 199);
            fails(x, 2, 200, 2);
            due("SIZE 200 is READY", x.state(2), 2);
            fails(x, 3, 0, 4);
            due("SIZE 201 is FAILED", x.state(3), 3);
            fails(x, 4, 0, 3);
            due("SIZE -1 is FAILED", x.state(4), 3);
            fails(x, 5, 0, 4);
            fails(x, 6, 0, 3);
            fails(x, 7, 0, 4);
            fails(x, 8, 0, 4);
            fails(x, 9, 0, 3);
            fails(x, 10, 0, 3);
            fails(x, 11, 0, 4);
        }
        OfficeTables x = Checks.of("table a[3]whole=a[2]*10+a[i]+5;");
        x.entry(0, 0);
        halves("all 0", x, half(0, 2, 0, 0), half(0, 0, 0, 0), half(0, 2, 0, 0), half(0, 1, 0, 0), half(0, 2, 0, 0),
            half(0, 2, 0, 0));
        due("it had 5", x.entry(0, 2), 5);
        x.drop(0);
        x.entry(0, 0);
        due("all 0 again", x.half(6, 3) + x.half(7, 3) + x.half(9, 3) + x.half(11, 3), 0);
    }

    private static void byWholeAllIsMade() {
        CHECK.holds(MAKING, "by whole all its entries are made, from 0 on");
        OfficeTables x = Checks.of("table a[3]whole=b[16-8*i]+a[0];table b[24]rows=i;");
        goesWell(x, 0, 1, 24);
        builds("all, though 1 was asked for", x, build(0, NONE, NONE), build(1, NONE, 0), build(1, 2, 0), build(1, 1, 0),
            build(1, 0, 0));
        halves("from 0 on", x, half(0, 0, 0, 0), half(0, 0, 0, 16), half(0, 0, 0, 16));
        due("they are made once", x.entry(0, 2) + x.builds(), 16 + 5);
        CHECK.holds(MAKING, "Then it is READY.");
        due("state(0)", x.state(0), 2);
        due("state(1)", x.state(1), 2);
    }

    private static void aPromisedSum() {
        CHECK.holds(MAKING, "last, if a sum is promised, it FAILS (5), if its entries (by rows: all are made for this, ROW by ROW)"
            + " have not just that exact sum.");
        for (String manner : new String[] {"whole", "rows"}) {
            OfficeTables x = Checks.of("table a[9]" + manner + "=i sum 36;table b[9]" + manner + "=i sum 35;table c[9]" + manner
                + "=i sum 37;table d[9]" + manner + "=-i sum-36;table e[9]" + manner + "=-i sum 36;table f[9]" + manner
                + "=i-4 sum 0;table g[9]" + manner + "=i sum-36;table h[0]" + manner + "=i sum 0;table j[0]" + manner
                + "=i sum 1;table k[9]" + manner + "=i-4 sum-0;");
            goesWell(x, 0, 8, 8);
            fails(x, 1, 8, 5);
            fails(x, 2, 0, 5);
            goesWell(x, 3, 8, -8);
            fails(x, 4, 8, 5);
            goesWell(x, 5, 8, 4);
            fails(x, 6, 8, 5);
            fails(x, 7, 0, 2);
            due("an empty one keeps 0", x.state(7), 2);
            fails(x, 8, 0, 5);
            goesWell(x, 9, 8, 4);
            x = Checks.of(POWERS + "table a[2]" + manner + "=p[63]sum 0;table b[4]" + manner + "=p[62]sum 0;table c[2]" + manner
                + "=(i?-1-p[63]:p[63])sum-1;table d[2]" + manner + "=(i?p[63]:-1-p[63])sum-1;table e[3]" + manner
                + "=((i<2)?p[63]-1:2)sum 0;table f[200]" + manner + "=((i%2<1)?p[63]:-1-p[63])sum-100;table g[4]" + manner
                + "=((i<2)?p[63]-1:p[63])sum-2;table h[2]" + manner + "=(i?p[32]:7)sum 7;");
            fails(x, 1, 0, 5);
            fails(x, 2, 0, 5);
            goesWell(x, 3, 1, MOST);
            goesWell(x, 4, 1, LEAST);
            fails(x, 5, 0, 5);
            goesWell(x, 6, 199, MOST);
            goesWell(x, 7, 3, LEAST);
            fails(x, 8, 0, 5);
            x = Checks.of("table a[201]" + manner + "=i sum 0;table b[1-2]" + manner + "=i sum 0;table c[9]" + manner
                + "=((i<8)?i:1/0)sum 0;");
            fails(x, 0, 0, 4);
            fails(x, 1, 0, 3);
            due("what FAILS ahead of the sum", x.entry(2, 0), 0);
            due("its innermost reason", x.reason(manner.equals("rows") ? 1 : 0), 1);
        }
        CHECK.holds(MAKING, "(by rows: all are made for this, ROW by ROW)");
        OfficeTables x = Checks.of("table a[17]rows=i sum 136;table b[17]rows=i;table c[9]rows=i sum 1;");
        goesWell(x, 0, 0, 0);
        goesWell(x, 1, 0, 0);
        fails(x, 2, 0, 5);
        builds("all rows in order, if promised", x, build(0, NONE, NONE), build(0, 0, NONE), build(0, 1, NONE), build(0, 2, NONE),
            build(1, NONE, NONE), build(1, 0, NONE), build(2, NONE, NONE), build(2, 0, NONE), build(2, 1, NONE));
        due("row(0, 2)", x.row(0, 2), 2);
        due("row(1, 2)", x.row(1, 2), 0);
    }

    private static void whatFailsOnTheWay() {
        CHECK.holds(MAKING, "What FAILS on the way leaves it FAILED, and its entries are gone.");
        OfficeTables x = Checks.of("table a[9]whole=1/(8-i);table b[9]whole=i sum 35;table c[9]rows=i sum 35;table d[201]whole=i;"
            + "table e[1-2]rows=i;table f[9]rows=1/(8-i)sum 0;");
        for (int table = 0; table < 6; table++) {
            due("the first entry of " + table, x.entry(table, 0), 0);
            due("state(" + table + ")", x.state(table), 3);
            due("count(3)", x.count(3), 0);
            fails(x, table, 0, 6);
            fails(x, table, 1, 6);
            due("state(" + table + ") stays", x.state(table), 3);
            due("row(" + table + ", 0)", x.row(table, 0), OfficeTables.STATE);
        }
        due("a FAILED one does not WAKE again", x.builds(), 6 + 2 + 2);
    }

    // ---- Section 2: rows

    private static void rowsOfEight() {
        CHECK.holds(MAKING, "By rows: ROW r are entries 8 r to 8 r + 7 as far as there are");
        int[][] sizes = {{0, 0}, {1, 1}, {7, 1}, {8, 1}, {9, 2}, {15, 2}, {16, 2}, {17, 3}, {192, 24}, {193, 25}, {200, 25}};
        for (int[] size : sizes) {
            OfficeTables x = Checks.of("table a[" + size[0] + "]rows=i;");
            x.entry(0, size[0] - 1);
            due("the last row of " + size[0], x.row(0, size[1] - 1), size[0] == 0 ? OfficeTables.OUTSIDE : 2);
            due("none behind it", x.row(0, size[1]), OfficeTables.OUTSIDE);
            due("entries in it", x.count(3), size[0] == 0 ? 0 : size[0] - 8 * (size[1] - 1));
        }
        OfficeTables x = Checks.of("table a[20]rows=i;");
        for (int[] next : new int[][] {{7, 0}, {8, 1}, {15, 1}, {16, 2}, {0, 2}, {19, 2}}) {
            goesWell(x, 0, next[0], next[0]);
            due("rows ready at place " + next[0], Math.max(0, x.row(0, 0)) + x.row(0, 1) + x.row(0, 2), 2 * next[1] + 2);
        }
        CHECK.holds(MAKING, "made together from the lowest on, when one of them is asked for first");
        x = Checks.of("table a[16]rows=b[8*(i%8)]+a[8];table b[64]rows=i;");
        goesWell(x, 0, 13, 40);
        builds("from 8 on, though 13 was asked for", x, build(0, NONE, NONE), build(0, 1, NONE), build(1, NONE, 0),
            build(1, 0, 0), build(1, 1, 0), build(1, 2, 0), build(1, 3, 0), build(1, 4, 0), build(1, 5, 0), build(1, 6, 0),
            build(1, 7, 0));
        due("all of them at once", x.count(3), 8 + 64);
        due("the first is made first", x.half(0, 3), 0);
        goesWell(x, 0, 8, 0);
        goesWell(x, 0, 15, 56);
        due("made once", x.builds(), 11);
        due("row 0 is asleep", x.row(0, 0), 0);
    }

    private static void aRowHasItsOwnState() {
        CHECK.holds(MAKING, "it is ASLEEP, UNDER WAY, READY or FAILED itself (also its entries stay 0 then)");
        OfficeTables x = Checks.of("table a[24]rows=5+6/((i-9)*(i-9));table b[9]rows=b[i]+1;");
        goesWell(x, 0, 0, 5);
        fails(x, 0, 8, 1);
        due("row 0", x.row(0, 0), 2);
        due("row 1", x.row(0, 1), 3);
        due("row 2", x.row(0, 2), 0);
        due("the table is READY all the same", x.state(0), 2);
        fails(x, 0, 8, 6);
        fails(x, 0, 15, 6);
        due("entries of the FAILED row are not there", x.count(3), 8);
        goesWell(x, 0, 16, 5);
        goesWell(x, 0, 7, 6);
        due("made again", x.builds(), 4);
        x.drop(0);
        fails(x, 0, 8, 1);
        x.entry(1, 0);
        due("all 0 as the row is UNDER WAY", x.half(0, 3) + x.half(7, 3), 0);
        CHECK.holds(MAKING, "the TABLE is UNDER WAY only as it WAKES");
        x = Checks.of("table q[24]rows=((i<8)?q[i+8]:((i<16)?q[i+8]:i));");
        goesWell(x, 0, 0, 16);
        builds("a row is made while another is", x, build(0, NONE, NONE), build(0, 0, NONE), build(0, 1, 0), build(0, 2, 0));
        due("of READY rows are no HALVES", x.halves(), 0);
        x = Checks.of(ELEVEN + "table m[1]rows=7;");
        goesWell(x, 0, 0, 7);
        due("m is no 13th beside its own row", x.row(M, 0), 2);
    }

    // ---- Section 2: asking

    private static void anEntryIsAskedFor() {
        CHECK.holds(MAKING, "ENTRY of a TABLE at a place is asked for: it WAKES, if it is ASLEEP");
        OfficeTables x = Checks.of("table a[3]whole=i;table b[201]rows=i;table c[9]rows=1/(i/8);table x[1]whole=b[0];"
            + "table y[1]whole=c[9];table z[1]whole=c[0];table w[1]whole=a[3];");
        goesWell(x, 0, 2, 2);
        goesWell(x, 0, 1, 1);
        due("it WAKES once", x.builds(), 1);
        CHECK.holds(MAKING, "if it is FAILED (before), that FAILS (6)");
        fails(x, 1, 0, 4);
        fails(x, 1, 0, 6);
        fails(x, 1, 201, 6);
        fails(x, 1, -1, 6);
        fails(x, 3, 0, 6);
        due("what leans on it is FAILED", x.state(3), 3);
        CHECK.holds(MAKING, "a place that is none of it FAILS (2)");
        for (int place : new int[] {3, 4, 200, -1, -3, Integer.MAX_VALUE, Integer.MIN_VALUE}) {
            fails(x, 0, place, 2);
        }
        due("the table stays READY", x.state(0), 2);
        fails(x, 6, 0, 2);
        due("what asked for it is FAILED", x.state(6), 3);
        CHECK.holds(MAKING, "by rows its ROW is made, if it is ASLEEP");
        due("builds ahead", x.builds(), 4);
        fails(x, 2, 9, 2);
        due("no row for a place that is none", x.builds(), 5);
        goesWell(x, 2, 8, 1);
        due("row 1 alone", x.builds(), 6);
        CHECK.holds(MAKING, "if it is FAILED (before), that FAILS (6). Of a TABLE");
        fails(x, 2, 0, 1);
        fails(x, 2, 0, 6);
        fails(x, 2, 7, 6);
        fails(x, 2, 9, 2);
        fails(x, 5, 0, 6);
        fails(x, 4, 0, 2);
        due("a FAILED row is not made again", x.builds(), 9);
    }

    private static void whatIsUnderWayIsRead() {
        CHECK.holds(MAKING, "Of a TABLE, a ROW that is UNDER WAY the entry is read as it is then: a HALF");
        OfficeTables x = Checks.of("table a[3]whole=a[0]+a[2]+a[i]+i+1;");
        goesWell(x, 0, 2, 4);
        halves("ahead, behind, itself", x, half(0, 0, 0, 0), half(0, 2, 0, 0), half(0, 0, 0, 0), half(0, 0, 0, 1),
            half(0, 2, 0, 0), half(0, 1, 0, 0), half(0, 0, 0, 1), half(0, 2, 0, 0), half(0, 2, 0, 0));
        x = Checks.of("table r[20]rows=r[16]+1;");
        goesWell(x, 0, 19, 2);
        halves("of its own row", x, half(0, 16, 0, 0), half(0, 16, 0, 1), half(0, 16, 0, 1), half(0, 16, 0, 1));
        goesWell(x, 0, 0, 2);
        due("of a READY row is no HALF", x.halves(), 4);
        x = Checks.of("table r[9]rows=w[i]+1;table w[9]whole=r[8-i]+i;");
        goesWell(x, 0, 0, 2);
        due("halves", x.halves(), 9);
        due("the other row was ASLEEP: it asks w, a HALF", x.half(0, 0) * 100 + x.half(0, 1) * 10 + x.half(0, 2), 180);
        due("then r, UNDER WAY", x.half(1, 0) * 100 + x.half(1, 1) * 10 + x.half(1, 2), 71);
        x = Checks.of("table a[2]whole=a[2]+1;table b[9]rows=b[9]+1;table c[2]whole=c[i-1];");
        fails(x, 0, 0, 2);
        fails(x, 1, 0, 2);
        fails(x, 2, 0, 2);
        due("a place that is none is no HALF", x.halves(), 0);
        CHECK.holds(MAKING, "(of a TABLE by rows that is UNDER WAY no ROW is made for that)");
        x = Checks.of("table q[24]rows=q[(i+8)%24]+1 sum 32;");
        goesWell(x, 0, 23, 2);
        builds("for its sum alone", x, build(0, NONE, NONE), build(0, 0, NONE), build(0, 1, NONE), build(0, 2, NONE));
        due("halves of ASLEEP and of READY rows", x.halves(), 24);
        due("of an ASLEEP row", x.half(0, 3) + x.half(8, 3), 0);
        due("of a READY row", x.half(16, 3), 1);
        due("its place", x.half(16, 1), 0);
        x = Checks.of("table q[16]rows=b[0]+i sum 120;table b[1]whole=q[15];");
        goesWell(x, 0, 15, 15);
        builds("nor for another one", x, build(0, NONE, NONE), build(0, 0, NONE), build(1, NONE, 0), build(0, 1, NONE));
        halves("who reads is the other one", x, half(0, 15, 1, 0));
    }

    // ---- Section 2: failing

    private static void twelveUnderWay() {
        CHECK.holds(MAKING, "a TABLE, a ROW would be UNDER WAY when 12 are (8; it stays ASLEEP)");
        OfficeTables x = Checks.of(ELEVEN + "table m[1]whole=7;");
        goesWell(x, 0, 0, 7);
        due("12 tables", x.count(1), 12);
        x = Checks.of("table p[200]rows=((i<8)?i:p[i-8]);");
        goesWell(x, 0, 95, 7);
        due("12 rows, the table is READY", x.builds(), 13);
        x = Checks.of("table p[200]rows=((i<8)?i:p[i-8]);");
        fails(x, 0, 96, 7, 7, 7, 7, 7, 7, 7, 7, 7, 7, 7, 8);
        due("the 13th row stays ASLEEP", x.row(0, 0), 0);
        due("the 12th is FAILED", x.row(0, 1), 3);
        due("so is the first", x.row(0, 12), 3);
        due("a row that stays ASLEEP is no BUILD", x.builds(), 13);
        goesWell(x, 0, 7, 7);
        due("it can be made then", x.row(0, 0), 2);
        for (String manner : new String[] {"whole", "rows"}) {
            x = Checks.of("table q[96]rows=((i<8)?p[0]:q[i-8]);table p[8]" + manner + "=i;");
            fails(x, 0, 95, 7, 7, 7, 7, 7, 7, 7, 7, 7, 7, 7, 8);
            due("a 13th table stays ASLEEP", x.state(1), 0);
            due("nor is it a BUILD", x.builds(), 13);
            goesWell(x, 1, 7, 7);
            due("it can WAKE then", x.state(1), 2);
            x = Checks.of("table q[96]rows=((i<8)?p[9]:q[i-8]);table p[201]" + manner + "=i;");
            fails(x, 0, 95, 7, 7, 7, 7, 7, 7, 7, 7, 7, 7, 7, 8);
            due("ahead of its SIZE", x.state(1), 0);
            x = Checks.of("table q[96]rows=((i<8)?p[0]:q[i-8]);table p[8]" + manner + "=i;");
            x.entry(1, 0);
            goesWell(x, 0, 95, 0);
            due("a READY one is none", x.row(0, 0), 2);
            x = Checks.of("table q[88]rows=((i<8)?p[0]:q[i-8]);table p[8]" + manner + "=i+7;");
            goesWell(x, 0, 87, 7);
            due("a 12th table goes well", x.state(1), 2);
            x = Checks.of("table q[88]rows=((i<8)?p[0]:q[i-8]);table p[9]" + manner + "=i+7 sum 99;");
            x.entry(0, 87);
            due("its promise, if its rows would be a 13th", x.reason(11), manner.equals("rows") ? 8 : NONE);
            due("state(1)", x.state(1), manner.equals("rows") ? 3 : 2);
        }
        x = Checks.of(ELEVEN + "table m[9]rows=7 sum 63;");
        fails(x, 0, 0, 7, 7, 7, 7, 7, 7, 7, 7, 7, 7, 7, 8);
        due("12 tables FAILED", x.count(2), 12);
        due("the row of the 12th is no BUILD", x.builds(), 12);
        x = Checks.of(ELEVEN + "table m[1]whole=a[0]+m[0]+7;");
        goesWell(x, 0, 0, 7);
        due("what is UNDER WAY is read by a 12th", x.halves(), 2);
        x = Checks.of("table p[104]rows=((i<8)?i:p[i-8]);table q[9]rows=p[103];");
        fails(x, 1, 0, 7, 7, 7, 7, 7, 7, 7, 7, 7, 7, 7, 8);
        goesWell(x, 0, 8, 0);
        goesWell(x, 0, 15, 7);
        due("what FAILED is not UNDER WAY for the next call", x.row(0, 1), 2);
        fails(x, 1, 8, 6);
    }

    private static void itFailsAtOnce() {
        CHECK.holds(MAKING, "What FAILS as an entry is made FAILS its ROW, or its TABLE, at once");
        OfficeTables x = Checks.of("table a[9]whole=((i<1)?1/0:b[0]);table b[1]whole=i;");
        fails(x, 0, 8, 1);
        due("no entry behind it is made", x.state(1), 0);
        x = Checks.of("table a[9]whole=1/0+b[0];table b[1]whole=i;");
        fails(x, 0, 0, 1);
        due("nor the rest of its SUM", x.state(1), 0);
        x = Checks.of("table a[9]rows=((i<1)?1/0:b[0]);table b[1]whole=i;");
        fails(x, 0, 0, 1);
        due("nor one behind it in its ROW", x.state(1), 0);
        due("the row FAILED", x.row(0, 0), 3);
        due("not the table", x.state(0), 2);
        x = Checks.of("table a[9]rows=((i<1)?1/0:b[0])sum 0;table b[1]whole=i;");
        fails(x, 0, 8, 7, 1);
        builds("nor another ROW", x, build(0, NONE, NONE), build(0, 0, NONE));
        due("the table FAILED", x.state(0), 3);
        CHECK.holds(MAKING, "and that FAILS the making that asked for it (7: the reason of that one is what it FAILED by; so on,"
            + " up to the call).");
        x = Checks.of("table a[9]whole=b[0];table b[9]rows=c[0];table c[9]rows=d[0]sum 0;table d[9]whole=1/0;table e[9]rows=a[i];");
        fails(x, 4, 0, 7, 7, 7, 7, 7, 1);
        due("row of e", x.row(4, 0), 3);
        due("e", x.state(4), 2);
        due("a", x.state(0), 3);
        due("row of b", x.row(1, 0), 3);
        due("b", x.state(1), 2);
        due("c", x.state(2), 3);
        due("d", x.state(3), 3);
        fails(x, 4, 8, 6);
    }

    private static void theRowOfReasons() {
        CHECK.holds(MAKING, "REASONS of a call are that row: 7 for each that FAILED on the way but the innermost, whose own REASON is"
            + " last.");
        OfficeTables x = Checks.of("table a[3]whole=i;table b[1]whole=1/0;table c[1]whole=b[0];table d[1]whole=c[0];"
            + "table e[1]whole=f[0];table f[1]whole=a[3];");
        fails(x, 0, 3, 2);
        fails(x, 3, 0, 7, 7, 1);
        fails(x, 1, 0, 6);
        fails(x, 4, 0, 7, 2);
        x = Checks.of("table b[1]whole=1/0;table c[1]whole=b[0];table d[1]whole=c[0];table e[1]rows=b[0];table f[9]rows=b[0]sum 0;");
        fails(x, 0, 0, 1);
        fails(x, 2, 0, 7, 6);
        fails(x, 3, 0, 6);
        fails(x, 4, 0, 7, 6);
        String[] ends = {"[1]whole=1/0;", "[1]whole=b[1];", "[1-2]whole=i;", "[201]rows=i;", "[1]whole=1 sum 0;"};
        for (int k = 0; k < ends.length; k++) {
            x = Checks.of(ELEVEN + "table m" + ends[k]);
            fails(x, 0, 0, 7, 7, 7, 7, 7, 7, 7, 7, 7, 7, 7, k + 1);
            due("all 12 are FAILED", x.count(2), 12);
            due("m is", x.state(M), 3);
        }
        x = Checks.of(ELEVEN + "table m[1]rows=1%0;");
        fails(x, 0, 0, 7, 7, 7, 7, 7, 7, 7, 7, 7, 7, 7, 1);
        due("11 tables and a row are FAILED", x.count(2), 11);
        due("m is READY", x.state(M), 2);
    }

    // ---- Section 3

    private static void whatBuildsAre() {
        CHECK.holds(DONE, "BUILDS are the TABLES that WAKE and the ROWS that are made, in the order in which they begin.");
        OfficeTables x = Checks.of("table a[9]rows=b[i]+i;table b[9]whole=c[8-i];table c[9]rows=i;table d[201]whole=i;"
            + "table e[1]whole=d[0]sum 9;");
        x.entry(0, 8);
        builds("the asker first, a table ahead of its rows", x, build(0, NONE, NONE), build(0, 1, NONE), build(1, NONE, 0),
            build(2, NONE, 1), build(2, 1, 1), build(2, 0, 1));
        x.entry(0, 8);
        x.entry(1, 0);
        x.find(2, 0);
        due("nothing of it begins again", x.builds(), 6);
        x.entry(0, 99);
        x.entry(0, -1);
        due("nor for a place that is none", x.builds(), 6);
        x.entry(4, 0);
        due("what FAILS began too", x.builds(), 8);
        due("d, by its SIZE", x.build(7, 0) * 100 + x.build(7, 2), 304);
        x.entry(4, 0);
        due("what is FAILED does not begin", x.builds(), 8);
        x.drop(1);
        x.entry(1, 0);
        due("what is let go begins again", x.build(8, 0), 1);
        due("by a call", x.build(8, 2), NONE);
        due("builds()", x.builds(), 9);
    }

    private static void howAHalfIsTold() {
        CHECK.holds(DONE, "A HALF is told by the TABLE that is read, the place, what was there, and who reads:"
            + " the TABLE whose entry is made.");
        OfficeTables x = Checks.of("table a[3]whole=c[i]-7;table b[3]whole=a[2-i]+10*i;table c[3]whole=b[i]+a[0];");
        goesWell(x, 0, 2, 13);
        halves("b reads a as c asks it, c reads a", x, half(0, 2, 1, 0), half(0, 1, 1, 0), half(0, 0, 1, 0), half(0, 0, 2, 0),
            half(0, 0, 2, 0), half(0, 0, 2, 0));
        x = Checks.of("table a[2]whole=a[0]-5;");
        x.entry(0, 1);
        halves("below 0", x, half(0, 0, 0, 0), half(0, 0, 0, -5));
        x.entry(0, 0);
        due("of a READY one a call reads no HALF", x.halves(), 2);
    }

    private static void aHundredAreKept() {
        CHECK.holds(DONE, "100 of each are kept at most, the first ones.");
        OfficeTables x = Checks.of("table a[101]whole=a[i]+i;table r[8]rows=i;");
        x.entry(0, 0);
        due("halves()", x.halves(), 101);
        due("half(0, 1)", x.half(0, 1), 0);
        due("half(99, 1)", x.half(99, 1), 99);
        due("half(100, 1)", x.half(100, 1), OfficeTables.UNKNOWN);
        x.drop(0);
        x.entry(0, 0);
        due("halves() later", x.halves(), 202);
        due("half(0, 1) stays", x.half(0, 1), 0);
        due("half(99, 1) stays", x.half(99, 1), 99);
        due("half(100, 1) later", x.half(100, 1), OfficeTables.UNKNOWN);
        due("half(201, 1)", x.half(201, 1), OfficeTables.UNKNOWN);
        for (int builds = 4; builds <= 100; builds += 2) {
            x.entry(1, 0);
            due("builds()", x.builds(), builds);
            due("the last one is kept", x.build(builds - 1, 1), 0);
            x.drop(1);
        }
        x.entry(1, 0);
        due("builds() above 100", x.builds(), 102);
        due("build(99, 1)", x.build(99, 1), 0);
        due("build(98, 1)", x.build(98, 1), NONE);
        due("build(100, 0)", x.build(100, 0), OfficeTables.UNKNOWN);
        due("build(101, 0)", x.build(101, 0), OfficeTables.UNKNOWN);
        due("build(0, 0) stays", x.build(0, 0), 0);
    }

    private static void numberedAsTold() {
        CHECK.holds(DONE, "TABLES are numbered as they were told.");
        OfficeTables x = Checks.of("table z[1]whole=m[0];table m[2]whole=a[0]+1;table a[3]whole=41;");
        due("named(z)", x.named('z'), 0);
        due("named(m)", x.named('m'), 1);
        due("named(a)", x.named('a'), 2);
        due("size(2)", x.size(2), 3);
        goesWell(x, 0, 0, 42);
        builds("z, m, a", x, build(0, NONE, NONE), build(1, NONE, 0), build(2, NONE, 1));
    }

    public static void main(String[] args) {
        numbersAreSixtyFourBits();
        placesAndSizes();
        divisions();
        lessAndChoice();
        theEntryAtAPlace();
        allFromTheLeft();
        itWakes();
        itHasSizeEntries();
        byWholeAllIsMade();
        aPromisedSum();
        whatFailsOnTheWay();
        rowsOfEight();
        aRowHasItsOwnState();
        anEntryIsAskedFor();
        whatIsUnderWayIsRead();
        twelveUnderWay();
        itFailsAtOnce();
        theRowOfReasons();
        whatBuildsAre();
        howAHalfIsTold();
        aHundredAreKept();
        numberedAsTold();
        CHECK.end("WakingTest");
    }
}
