/** Promises 7 to 17 and 19: how tables and rows are made and fail, what is asked for, and what was done. */
public final class MakingTest {
    private static final Checks CHECKS = new Checks();
    private static final String POWERS = "table p[64]whole=((i<1)?1:p[i-1]*2);";

    private static void due(String call, long got, long want) {
        CHECKS.due(call, got, want);
    }

    private static void reasons(String when, OfficeTables x, int... want) {
        CHECKS.reasons(when, x, want);
    }

    private static void builds(String when, OfficeTables x, int[]... want) {
        CHECKS.builds(when, x, want);
    }

    private static void halves(String when, OfficeTables x, long[]... want) {
        CHECKS.halves(when, x, want);
    }

    /** The value of a sum at place 0, over the powers of 2 in p. */
    private static long worth(String sum) {
        OfficeTables x = Checks.of(POWERS + "table x[1]whole=" + sum + ";");
        long value = x.entry(1, 0);
        due(sum + " has no reasons", x.reason(0), OfficeTables.NONE);
        return value;
    }

    private static void numbers() {
        due("left to right -", worth("9-3-2"), 4);
        due("products first", worth("2+3*4-6/2"), 11);
        due("products left to right", worth("7*5/3%4*2"), 6);
        due("minus binds first", worth("-7/2"), -3);
        due("minus of a minus", worth("--7"), 7);
        due("rest of below 0", worth("-7%3"), -1);
        due("rest by below 0", worth("7%-3"), 1);
        due("brackets", worth("(2+3)*4"), 20);
        due("less", worth("(1<2)"), 1);
        due("less of the same", worth("(2<2)"), 0);
        due("less below 0", worth("(-3<-2)+(-2<-3)"), 1);
        due("less takes sums", worth("(1+1<1*3)"), 1);
        due("choice by 0", worth("(0?5:6)"), 6);
        due("choice by below 0", worth("(-1?5:6)"), 5);
        due("choice by 2 to the 32", worth("(p[32]?5:6)"), 5);
        due("only the first is worked out", worth("(1?5:1/0)"), 5);
        due("only the other is worked out", worth("(0?1/0:6)"), 6);
        due("choices in choices", worth("(1?(0?1:(1?2:3)):4)*10+(0?5:(1?6:7))"), 26);
        due("choice and what is behind it", worth("1+(0?2:3)*4-5"), 8);
        due("wrapping up", worth("p[62]*2"), Long.MIN_VALUE);
        due("wrapping down", worth("p[63]-1"), Long.MAX_VALUE);
        due("wrapping minus", worth("-p[63]"), Long.MIN_VALUE);
        due("least by -1", worth("p[63]/-1"), Long.MIN_VALUE);
        due("rest of least by -1", worth("p[63]%-1"), 0);
        due("less over all", worth("(p[63]<-(p[63]+1))"), 1);
        due("size of a later name", worth("#x+#p"), 65);
        due("i", Checks.of("table x[9]whole=i*i;").entry(0, 8), 64);
    }

    private static void order() {
        OfficeTables x = Checks.of("table x[1]whole=b[0]+a[0]*b[a[0]];table a[1]whole=i;table b[1]whole=i;");
        due("from the left", x.entry(0, 0), 0);
        builds("from the left", x, new int[] {0, -9, -9}, new int[] {2, -9, 0}, new int[] {1, -9, 0});
        x = Checks.of("table x[1]whole=1/0*a[0];table a[1]whole=i;");
        x.entry(0, 0);
        reasons("/ 0 ahead of a[0]", x, 1);
        due("a was not asked", x.state(1), 0);
        x = Checks.of("table x[1]whole=a[9]/0;table a[1]whole=i;");
        x.entry(0, 0);
        reasons("a[9] ahead of / 0", x, 2);
        x = Checks.of("table x[1]whole=1%0;");
        x.entry(0, 0);
        reasons("% 0", x, 1);
        x = Checks.of("table x[1]whole=(a[0]<1/0);table a[1]whole=i;");
        x.entry(0, 0);
        due("the left one of < was asked", x.state(1), 2);
    }

    private static void wholeTables() {
        OfficeTables x = Checks.of("table a[10]whole=i*3;table b[0]whole=1/0;");
        due("state asleep", x.state(0), 0);
        due("count ready", x.count(1), 0);
        due("entry(0, 9)", x.entry(0, 9), 27);
        due("state ready", x.state(0), 2);
        due("state of the other", x.state(1), 0);
        due("count entries", x.count(3), 10);
        builds("woke once", x, new int[] {0, -9, -9});
        due("entry(0, 0)", x.entry(0, 0), 0);
        due("builds() again", x.builds(), 1);
        due("entry(0, 10)", x.entry(0, 10), 0);
        reasons("place 10", x, 2);
        due("entry(0, -1)", x.entry(0, -1), 0);
        reasons("place -1", x, 2);
        due("entry(0, 3)", x.entry(0, 3), 9);
        reasons("well again", x);
        due("still ready", x.state(0), 2);
        due("entry of none", x.entry(1, 0), 0);
        reasons("size 0 has no place", x, 2);
        due("it is ready", x.state(1), 2);
        x.entry(0, 99);
        due("entry(2, 0): no such table", x.entry(2, 0), 0);
        reasons("no such table", x);
        x.entry(0, 99);
        due("entry(-1, 0): no such table", x.entry(-1, 0), 0);
        reasons("no such table", x);
        x = Checks.of("table a[3]whole=i;");
        x.entry(0, 77);
        reasons("awake ahead of the place", x, 2);
        due("it woke", x.state(0), 2);
    }

    private static void failingTables() {
        OfficeTables x = Checks.of("table a[3-5]whole=i;table b[201]rows=i;table c[200]whole=i;table d[4]whole=1/(2-i);"
            + "table e[1]whole=d[0];table f[2]rows=e[0];table g[1]whole=f[0];table h[1]whole=c[200];");
        x.entry(0, 0);
        reasons("size below 0", x, 3);
        due("it failed", x.state(0), 3);
        x.entry(1, 0);
        reasons("size above 200", x, 4);
        due("entry(2, 199)", x.entry(2, 199), 199);
        x.entry(3, 0);
        reasons("/ 0 at place 2", x, 1);
        due("it failed", x.state(3), 3);
        x.entry(3, 0);
        reasons("it stays failed", x, 6);
        x.entry(3, -5);
        reasons("failed ahead of the place", x, 6);
        x.entry(6, 0);
        reasons("leaning on a failed one", x, 7, 7, 6);
        due("the row's table is ready", x.state(5), 2);
        due("the row failed", x.row(5, 0), 3);
        due("e failed", x.state(4), 3);
        due("g failed", x.state(6), 3);
        due("count failed", x.count(2), 5);
        x.entry(5, 1);
        reasons("of a failed row", x, 6);
        x.entry(5, 2);
        reasons("place ahead of the row", x, 2);
        x.entry(7, 0);
        reasons("a place that is none, from a sum", x, 2);
        due("h failed", x.state(7), 3);
        due("c is ready", x.state(2), 2);
        builds("all that began", x, new int[] {0, -9, -9}, new int[] {1, -9, -9}, new int[] {2, -9, -9},
            new int[] {3, -9, -9}, new int[] {6, -9, -9}, new int[] {5, -9, 6}, new int[] {5, 0, 6}, new int[] {4, -9, 5},
            new int[] {7, -9, -9});
        due("count ready", x.count(1), 2);
        due("entries of ready ones", x.count(3), 200);
    }

    private static void reasonsFromTheInnermost() {
        OfficeTables x = Checks.of("table a[1]whole=b[0];table b[1]rows=c[0]sum 0;table c[1]whole=d[0];table d[300]whole=i;");
        due("entry", x.entry(0, 0), 0);
        reasons("a, b, its row, c, d", x, 7, 7, 7, 7, 4);
        due("d failed too", x.state(3), 3);
        x = Checks.of("table a[1]whole=b[0];table b[2]whole=i sum 2;");
        x.entry(0, 0);
        reasons("a promise that is not kept", x, 7, 5);
        x = Checks.of("table a[1]whole=b[0];table b[0-1]whole=i;");
        x.entry(0, 0);
        reasons("size below 0 within", x, 7, 3);
        due("both failed", x.count(2), 2);
    }

    private static void rows() {
        OfficeTables x = Checks.of("table a[20]rows=((i<16)?i*i:1/0);table b[8]rows=i;table c[0]rows=i;table d[3]whole=i;");
        due("row of an asleep one", x.row(0, 0), OfficeTables.STATE);
        due("entry(0, 9)", x.entry(0, 9), 81);
        due("row 0 is asleep", x.row(0, 0), 0);
        due("row 1 is ready", x.row(0, 1), 2);
        due("row 2 is asleep", x.row(0, 2), 0);
        due("row 3", x.row(0, 3), OfficeTables.OUTSIDE);
        due("row -1", x.row(0, -1), OfficeTables.OUTSIDE);
        due("row max", x.row(0, Integer.MAX_VALUE), OfficeTables.OUTSIDE);
        due("entries", x.count(3), 8);
        due("entry(0, 19)", x.entry(0, 19), 0);
        reasons("row 2", x, 1);
        due("row 2 failed", x.row(0, 2), 3);
        due("its table is ready", x.state(0), 2);
        due("no table failed", x.count(2), 0);
        due("entries", x.count(3), 8);
        due("entry(0, 16)", x.entry(0, 16), 0);
        reasons("row 2 again", x, 6);
        due("entry(0, 0)", x.entry(0, 0), 0);
        due("entry(0, 7)", x.entry(0, 7), 49);
        due("entries", x.count(3), 16);
        builds("rows", x, new int[] {0, -9, -9}, new int[] {0, 1, -9}, new int[] {0, 2, -9}, new int[] {0, 0, -9});
        due("place 20", x.entry(0, 20), 0);
        reasons("place 20", x, 2);
        due("no row for place 20", x.builds(), 4);
        due("entry(1, 7)", x.entry(1, 7), 7);
        due("a full last row", x.row(1, 0), 2);
        due("none behind it", x.row(1, 1), OfficeTables.OUTSIDE);
        due("entry(2, 0)", x.entry(2, 0), 0);
        reasons("no entries", x, 2);
        due("no rows at all", x.row(2, 0), OfficeTables.OUTSIDE);
        x.entry(3, 0);
        due("row of a whole one", x.row(3, 0), OfficeTables.STATE);
        due("row of a whole one, outside", x.row(3, 9), OfficeTables.STATE);
        due("row of none", x.row(4, 0), OfficeTables.UNKNOWN);
        due("row of -1", x.row(-1, 9), OfficeTables.UNKNOWN);
        x = Checks.of("table a[201]rows=i;");
        x.entry(0, 0);
        due("row of a failed one", x.row(0, 0), OfficeTables.STATE);
        x = Checks.of("table a[20]rows=i;");
        x.entry(0, 19);
        due("a last row with 4 entries", x.count(3), 4);
    }

    private static void halfMade() {
        OfficeTables x = Checks.of("table a[2]whole=b[i]+1;table b[2]whole=a[i]+1;");
        due("entry of a circle", x.entry(0, 1), 2);
        halves("a circle", x, new long[] {0, 0, 1, 0}, new long[] {0, 1, 1, 0});
        due("the other of it", x.entry(1, 1), 1);
        x = Checks.of("table a[4]whole=a[3-i]+i+1;");
        due("what is made is there", x.entry(0, 3), 5);
        halves("its own entries", x, new long[] {0, 3, 0, 0}, new long[] {0, 2, 0, 0}, new long[] {0, 1, 0, 2},
            new long[] {0, 0, 0, 1});
        x = Checks.of("table a[2]whole=a[2];");
        due("no half at a place that is none", x.entry(0, 0), 0);
        reasons("a place that is none of one under way", x, 2);
        due("no half", x.halves(), 0);
        x = Checks.of("table q[16]rows=q[(i+8)%16]+1;");
        due("a row asks for another", x.entry(0, 0), 2);
        builds("the other row within", x, new int[] {0, -9, -9}, new int[] {0, 0, -9}, new int[] {0, 1, 0});
        due("halves of the other row", x.halves(), 8);
        due("half 7", x.half(7, 1), 7);
        due("entry of the other row", x.entry(0, 8), 1);
        x = Checks.of("table q[16]rows=q[(i+8)%16]+1 sum 24;");
        due("no row is made for one under way", x.entry(0, 0), 1);
        builds("rows in order, asked for by the promise", x, new int[] {0, -9, -9}, new int[] {0, 0, -9},
            new int[] {0, 1, -9});
        due("halves", x.halves(), 16);
        due("half of an asleep row", x.half(0, 3), 0);
        due("half of a ready row", x.half(8, 3), 1);
        due("entry of the last row", x.entry(0, 15), 2);
        x = Checks.of("table p[10]rows=((i<1)?1:p[i-1]+1)sum 55;table r[9]rows=((i<1)?1:r[i-1]+1);");
        due("over the edge of a row", x.entry(0, 9), 10);
        due("all of them halves", x.halves(), 9);
        due("without a promise", x.entry(1, 8), 9);
        due("a ready row is no half", x.halves(), 16);
    }

    private static void twelveUnderWay() {
        OfficeTables x = Checks.of("table p[200]rows=((i<8)?i:p[i-8]);");
        due("a 13th row", x.entry(0, 199), 0);
        reasons("a 13th row", x, 7, 7, 7, 7, 7, 7, 7, 7, 7, 7, 7, 8);
        due("12 rows and the table", x.builds(), 13);
        due("row 13 failed", x.row(0, 13), 3);
        due("row 12 is asleep", x.row(0, 12), 0);
        due("12 rows are well", x.entry(0, 95), 7);
        reasons("12 rows", x);
        due("row 12 now", x.entry(0, 103), 7);
        due("row 13 stays failed", x.entry(0, 104), 0);
        reasons("row 13", x, 6);
        due("builds", x.builds(), 26);
        StringBuilder chain = new StringBuilder();
        String names = "abcdefghjklm";
        for (int k = 0; k < 11; k++) {
            chain.append("table ").append(names.charAt(k)).append("[1]whole=").append(names.charAt(k + 1)).append("[0];");
        }
        x = Checks.of(chain + "table m[3]rows=i+7;");
        due("11 tables, one that wakes, its row", x.entry(0, 0), 7);
        due("builds", x.builds(), 13);
        x = Checks.of(chain + "table m[3]rows=i+7 sum 24;");
        due("the row is a 13th", x.entry(0, 0), 0);
        reasons("the row is a 13th", x, 7, 7, 7, 7, 7, 7, 7, 7, 7, 7, 7, 8);
        due("all tables failed", x.count(2), 12);
        due("no build of the row", x.builds(), 12);
        x = Checks.of(chain + "table m[3]whole=a[0]+7;");
        due("a circle of 12", x.entry(0, 0), 7);
        due("a half for each entry of m", x.halves(), 3);
        x = Checks.of("table q[80]rows=((i<8)?p[150]:q[i-8]);table p[200]rows=((i<8)?i:p[i-8]);");
        due("a table under rows", x.entry(0, 79), 0);
        reasons("10 rows of q, 2 of p", x, 7, 7, 7, 7, 7, 7, 7, 7, 7, 7, 7, 8);
        x = Checks.of("table q[96]rows=((i<8)?p[0]:q[i-8]);table p[8]whole=i;");
        due("a table is a 13th", x.entry(0, 95), 0);
        reasons("a table is a 13th", x, 7, 7, 7, 7, 7, 7, 7, 7, 7, 7, 7, 8);
        due("it stays asleep", x.state(1), 0);
        due("q is ready", x.state(0), 2);
        x = Checks.of("table q[88]rows=((i<8)?p[0]:q[i-8]);table p[201]whole=i;");
        x.entry(0, 87);
        reasons("the 12th fails by its size", x, 7, 7, 7, 7, 7, 7, 7, 7, 7, 7, 7, 4);
        x = Checks.of("table q[96]rows=((i<8)?p[0]:q[i-8]);table p[201]whole=i;");
        x.entry(0, 95);
        reasons("the 13th is refused ahead of its size", x, 7, 7, 7, 7, 7, 7, 7, 7, 7, 7, 7, 8);
    }

    private static void promises() {
        OfficeTables x = Checks.of("table a[5]whole=i sum 10;table b[5]whole=i sum 9;table c[0]rows=i sum 0;"
            + "table d[0]rows=i sum 1;table e[9]rows=-i sum-36;table f[9]rows=-i sum 36;table g[0]whole=i sum-0;");
        due("a keeps it", x.entry(0, 4), 4);
        due("b does not", x.entry(1, 4), 0);
        reasons("b", x, 5);
        due("b failed", x.state(1), 3);
        x.entry(2, 0);
        reasons("c keeps it", x, 2);
        x.entry(3, 0);
        reasons("d does not", x, 5);
        due("e keeps it", x.entry(4, 8), -8);
        due("its rows are ready", x.row(4, 1), 2);
        x.entry(5, 0);
        reasons("f does not", x, 5);
        x.entry(6, 0);
        reasons("g keeps it", x, 2);
        x = Checks.of(POWERS + "table a[2]whole=p[63]sum 0;table b[2]whole=(i?-1-p[63]:p[63])sum-1;"
            + "table c[200]whole=(i?-1-p[63]:-p[63])sum 0;table d[2]rows=p[63]sum 0;table e[4]whole=((i%2<1)?p[63]:-1-p[63])sum-2;");
        x.entry(1, 0);
        reasons("exact, not wrapped", x, 5);
        due("exact -1", x.entry(2, 0), Long.MIN_VALUE);
        x.entry(3, 0);
        reasons("exact, far above", x, 5);
        x.entry(4, 0);
        reasons("exact by rows", x, 5);
        due("exact -2", x.entry(5, 3), Long.MAX_VALUE);
        x = Checks.of("table c[20]rows=((i<9)?i:1/0)sum 1;");
        x.entry(0, 0);
        reasons("a row fails for the promise", x, 7, 1);
        builds("a row fails for the promise", x, new int[] {0, -9, -9}, new int[] {0, 0, -9}, new int[] {0, 1, -9});
        x = Checks.of("table a[9]rows=b[0]sum 0;table b[9]rows=i sum 36;");
        due("promises within", x.entry(0, 8), 0);
        builds("promises within", x, new int[] {0, -9, -9}, new int[] {0, 0, -9}, new int[] {1, -9, 0},
            new int[] {1, 0, -9}, new int[] {1, 1, -9}, new int[] {0, 1, -9});
    }

    private static void sums() {
        OfficeTables x = Checks.of(POWERS + "table a[3]whole=-1-p[63];table b[3]whole=p[63];table c[20]rows=i*i;"
            + "table d[20]rows=((i<12)?i:1/0);");
        due("sum of one", x.sum(0, 5, 5, 0), 32);
        due("sum of 0 .. 63, part 0", x.sum(0, 0, 63, 0), 4294967295L);
        due("sum of 0 .. 62, part 1", x.sum(0, 0, 62, 1), 2147483647L);
        due("sum of 0 .. 63, part 2", x.sum(0, 0, 63, 2), 4294967295L);
        due("2 * max, part 0", x.sum(1, 0, 1, 0), 4294967294L);
        due("2 * max, part 1", x.sum(1, 0, 1, 1), 4294967295L);
        due("2 * max, part 2", x.sum(1, 0, 1, 2), 0);
        due("3 * max, part 0", x.sum(1, 0, 2, 0), 4294967293L);
        due("3 * max, part 1", x.sum(1, 0, 2, 1), 2147483647L);
        due("3 * max, part 2", x.sum(1, 0, 2, 2), 1);
        due("2 * min, part 0", x.sum(2, 0, 1, 0), 0);
        due("2 * min, part 1", x.sum(2, 0, 1, 1), 0);
        due("2 * min, part 2", x.sum(2, 0, 1, 2), 4294967295L);
        due("3 * min, part 1", x.sum(2, 0, 2, 1), 2147483648L);
        due("3 * min, part 2", x.sum(2, 0, 2, 2), 4294967294L);
        reasons("sums that are well", x);
        due("rows 6 .. 9", x.sum(3, 6, 9, 0), 36 + 49 + 64 + 81);
        due("row 2 was not asked", x.row(3, 2), 0);
        due("row 1 was", x.row(3, 1), 2);
        due("sum that fails", x.sum(4, 0, 12, 0), 0);
        reasons("sum that fails", x, 1);
        due("its first row is ready", x.row(4, 0), 2);
        due("sum with k 3", x.sum(4, 0, 1, 3), OfficeTables.OUTSIDE);
        due("sum with k -1", x.sum(4, 0, 1, -1), OfficeTables.OUTSIDE);
        due("sum to below from", x.sum(4, 1, 0, 0), OfficeTables.OUTSIDE);
        due("sum to from + 1001", x.sum(4, 0, 1001, 0), OfficeTables.OUTSIDE);
        due("sum from min to max", x.sum(4, Integer.MIN_VALUE, Integer.MAX_VALUE, 0), OfficeTables.OUTSIDE);
        due("sum from max to min", x.sum(4, Integer.MAX_VALUE, Integer.MIN_VALUE, 0), OfficeTables.OUTSIDE);
        due("sum of no table", x.sum(6, 0, 0, 9), OfficeTables.UNKNOWN);
        due("sum of table -1", x.sum(-1, 0, 0, 0), OfficeTables.UNKNOWN);
        reasons("refused sums change no reasons", x, 1);
        due("sum to from + 1000", x.sum(4, 0, 1000, 0), 0);
        reasons("sum to from + 1000", x, 6);
        due("sum from below 0", x.sum(3, -1, 4, 0), 0);
        reasons("sum from below 0", x, 2);
        due("sum at the end of numbers", x.sum(3, Integer.MAX_VALUE - 2, Integer.MAX_VALUE, 0), 0);
        reasons("sum at the end of numbers", x, 2);
        due("sum over the end", x.sum(1, 2, 3, 0), 0);
        reasons("sum over the end", x, 2);
        x = Checks.of("table a[20]rows=i;");
        due("sum stops at the first that fails", x.sum(0, -1, 19, 0), 0);
        builds("it only woke", x, new int[] {0, -9, -9});
        x = Checks.of("table a[20]rows=i;");
        x.sum(0, 0, 20, 0);
        due("all ahead of the one that fails are made", x.builds(), 4);
    }

    private static void finding() {
        OfficeTables x = Checks.of("table a[20]rows=i%9-4;table b[3]whole=i;table c[0]whole=i;table d[20]rows=((i<12)?i:1/0);"
            + "table e[201]whole=i;table f[0]whole=i sum 1;");
        due("find the least", x.find(0, -4), 0);
        builds("find asks as a call", x, new int[] {0, -9, -9}, new int[] {0, 0, -9});
        due("find in the second row", x.find(0, 4), 8);
        due("row 2 is asleep", x.row(0, 2), 0);
        due("find none", x.find(0, 5), OfficeTables.NONE);
        due("all rows for none", x.row(0, 2), 2);
        reasons("none has no reasons", x);
        due("find wakes", x.find(1, 2), 2);
        due("ready", x.state(1), 2);
        due("find in none", x.find(2, 0), OfficeTables.NONE);
        due("it woke all the same", x.state(2), 2);
        due("find ahead of what fails", x.find(3, 7), 7);
        due("find in what fails", x.find(3, 11), -10);
        reasons("find in what fails", x, 1);
        due("find 0 in what fails", x.find(3, 99), -10);
        reasons("find in what has failed", x, 6);
        due("find in no table", x.find(6, 0), OfficeTables.UNKNOWN);
        due("find in table -1", x.find(-1, 0), OfficeTables.UNKNOWN);
        reasons("refused, so the reasons stay", x, 6);
        due("find in one that fails as it wakes", x.find(4, 0), -10);
        reasons("find in one that fails as it wakes", x, 4);
        due("find in it again", x.find(4, 0), -10);
        reasons("find in it again", x, 6);
        due("find in an empty one that fails", x.find(5, 0), -10);
        reasons("find in an empty one that fails", x, 5);
        due("find in it again", x.find(5, 0), -10);
        reasons("find in an empty one that has failed", x, 6);
        due("find well", x.find(1, 0), 0);
        reasons("find well", x);
    }

    private static void dropping() {
        OfficeTables x = Checks.of("table a[20]rows=((i<16)?i+1:1/0);table b[3]whole=a[0]+b[i]+i;table c[3]whole=1/0;");
        due("drop an asleep one", x.drop(0), OfficeTables.STATE);
        x.entry(0, 0);
        x.entry(0, 16);
        due("row 2 failed", x.row(0, 2), 3);
        due("drop by rows", x.drop(0), 20);
        due("asleep again", x.state(0), 0);
        due("no rows", x.row(0, 0), OfficeTables.STATE);
        reasons("reasons stay", x, 1);
        due("drop again", x.drop(0), OfficeTables.STATE);
        due("entry again", x.entry(0, 8), 9);
        due("row 0 is asleep again", x.row(0, 0), 0);
        due("row 2 is asleep again", x.row(0, 2), 0);
        due("builds go on", x.builds(), 5);
        due("entry(1, 2)", x.entry(1, 2), 3);
        due("drop whole", x.drop(1), 3);
        due("entries are gone", x.count(3), 16);
        due("entry(1, 2) again", x.entry(1, 2), 3);
        due("halves read 0 again", x.half(3, 3), 0);
        due("halves", x.halves(), 6);
        x.entry(2, 0);
        due("drop a failed one", x.drop(2), OfficeTables.STATE);
        due("it stays failed", x.state(2), 3);
        due("drop none", x.drop(3), OfficeTables.UNKNOWN);
        due("drop -1", x.drop(-1), OfficeTables.UNKNOWN);
        x = Checks.of("table a[0]whole=i;table q[16]rows=q[(i+8)%16]+1;");
        x.entry(0, 0);
        due("drop an empty one", x.drop(0), 0);
        x.entry(1, 0);
        x.drop(1);
        due("rows begin with 0 again", x.entry(1, 0), 2);
    }

    private static void kept() {
        OfficeTables x = Checks.of("table a[200]whole=(i?a[i-1]+1:1);table b[200]rows=i;");
        due("entry", x.entry(0, 199), 200);
        due("all halves are told", x.halves(), 199);
        due("half 99: place", x.half(99, 1), 99);
        due("half 99: what was there", x.half(99, 3), 100);
        due("half 100", x.half(100, 0), OfficeTables.UNKNOWN);
        due("half -1", x.half(-1, 0), OfficeTables.UNKNOWN);
        due("half min", x.half(Integer.MIN_VALUE, 9), OfficeTables.UNKNOWN);
        due("half 0, 4", x.half(0, 4), OfficeTables.OUTSIDE);
        due("half 0, -1", x.half(0, -1), OfficeTables.OUTSIDE);
        for (int k = 0; k < 5; k++) {
            x.find(1, -1);
            due("builds", x.builds(), 1 + 26 * (k + 1));
            x.drop(1);
        }
        due("build 99: table", x.build(99, 0), 1);
        due("build 99: row", x.build(99, 1), 19);
        due("build 99: who", x.build(99, 2), OfficeTables.NONE);
        due("build 100", x.build(100, 0), OfficeTables.UNKNOWN);
        due("build -1", x.build(-1, 0), OfficeTables.UNKNOWN);
        due("build max", x.build(Integer.MAX_VALUE, 7), OfficeTables.UNKNOWN);
        due("build 0, 3", x.build(0, 3), OfficeTables.OUTSIDE);
        due("build 0, -1", x.build(0, -1), OfficeTables.OUTSIDE);
    }

    private static void states() {
        OfficeTables x = Checks.of("table a[3]whole=i;table b[2]whole=i/0;table c[9]rows=i;");
        due("count tables", x.count(0), 3);
        due("count ready", x.count(1), 0);
        x.find(0, 0);
        x.find(1, 0);
        x.find(2, 8);
        due("state(0)", x.state(0), 2);
        due("state(1)", x.state(1), 3);
        due("state(2)", x.state(2), 2);
        due("state(3)", x.state(3), OfficeTables.UNKNOWN);
        due("state(-1)", x.state(-1), OfficeTables.UNKNOWN);
        due("count ready", x.count(1), 2);
        due("count failed", x.count(2), 1);
        due("count entries", x.count(3), 12);
        due("count tape", x.count(4), 0);
        x.feed('t');
        due("count tape", x.count(4), 1);
        due("count 5", x.count(5), OfficeTables.OUTSIDE);
        due("count -1", x.count(-1), OfficeTables.OUTSIDE);
    }

    /** As many numbers wait at once as can. */
    private static void muchAtOnce() {
        OfficeTables x = Checks.of("table a[200]whole=b[i]+i;table b[200]whole=c[i]+i;table c[200]rows=i+1 sum 20100;");
        due("three tables of 200", x.entry(0, 199), 598);
        StringBuilder chain = new StringBuilder();
        String names = "abcdefghjklma";
        long want = 0;
        for (int k = 0; k < 12; k++) {
            chain.append("table ").append(names.charAt(k)).append("[1]whole=").append("1+2*(".repeat(7))
                .append(names.charAt(k + 1)).append("[0]").append(")".repeat(7)).append(";");
            want = 127 + 128 * want;
        }
        x = Checks.of(chain.toString());
        due("twelve tables, 14 numbers waiting in each", x.entry(0, 0), want);
        due("the first one was half made", x.halves(), 1);
        x = Checks.of("table a[9]rows=i" + "*i+i".repeat(11) + "-i;");
        due("a SUM of 24 UNITS", x.entry(0, 8), 11 * 64);
    }

    /** What failed long ago leaves nothing behind that a later call could meet. */
    private static void failingOften() {
        OfficeTables x = Checks.of("table a[9]rows=1+(2*(3-(4+(5*(6+((i<8)?1:1/0))))));");
        for (int k = 0; k < 80; k++) {
            due("entry(0, 8), time " + k, x.entry(0, 8), 0);
            reasons("time " + k, x, 1);
            due("drop(0)", x.drop(0), 9);
        }
        due("entry(0, 7)", x.entry(0, 7), 1 + 2 * (3 - (4 + 5 * 7)));
    }

    public static void main(String[] args) {
        numbers();
        order();
        wholeTables();
        failingTables();
        reasonsFromTheInnermost();
        rows();
        halfMade();
        twelveUnderWay();
        promises();
        sums();
        finding();
        dropping();
        kept();
        states();
        failingOften();
        muchAtOnce();
        CHECKS.end("MakingTest");
    }
}
