/** Promises 1 to 6 and 18: the tape, the text and its faults, names and sizes. */
public final class ReadingTest {
    private static final Checks CHECKS = new Checks();
    private static final String[] TWELVE = {"a", "b", "c", "d", "e", "f", "g", "h", "j", "k", "l", "m"};

    private static void due(String call, long got, long want) {
        CHECKS.due(call, got, want);
    }

    private static void reading(String text, int want) {
        CHECKS.reading(text, want);
    }

    private static void faultAt(String marked) {
        CHECKS.faultAt(marked);
    }

    private static String repeat(String one, int times) {
        return one.repeat(times);
    }

    private static void newObject() {
        OfficeTables x = new OfficeTables();
        for (int what = 0; what < 5; what++) {
            due("new: count(" + what + ")", x.count(what), 0);
        }
        due("new: named(a)", x.named('a'), OfficeTables.NONE);
        due("new: size(0)", x.size(0), OfficeTables.UNKNOWN);
        due("new: builds()", x.builds(), 0);
        due("new: halves()", x.halves(), 0);
        due("new: reason(0)", x.reason(0), OfficeTables.NONE);
        due("new: read()", x.read(), -100);
        due("new: cut()", x.cut(), 0);
    }

    private static void constants() {
        due("UNKNOWN", OfficeTables.UNKNOWN, -1);
        due("OUTSIDE", OfficeTables.OUTSIDE, -2);
        due("STATE", OfficeTables.STATE, -3);
        due("FULL", OfficeTables.FULL, -4);
        due("NONE", OfficeTables.NONE, -9);
    }

    private static void feeding() {
        OfficeTables x = new OfficeTables();
        due("feed(8 bytes)", x.feed(Checks.letters("table a[")), 8);
        due("feed(0)", x.feed(0), 8);
        due("feed(a 0 ends it)", x.feed('3' | (long) ']' << 16), 9);
        due("feed(3 bytes)", x.feed(Checks.letters("]wh")), 12);
        due("feed(the lowest is 0)", x.feed(0x6100L), 12);
        due("feed(rest)", x.feed(Checks.letters("ole=i;")), 18);
        due("read() of what was fed", x.read(), 1);
        due("size of it", x.size(0), 3);
        due("feed(all bits)", x.feed(-1L), 8);
        due("feed(highest bit)", x.feed(Long.MIN_VALUE), 8);
        due("feed(byte 128)", x.feed(128), 9);
        due("cut()", x.cut(), 9);
    }

    private static void feedingFull() {
        OfficeTables x = new OfficeTables();
        for (int k = 1; k <= 112; k++) {
            due("feed " + k, x.feed(Checks.letters("        ")), 8 * k);
        }
        due("feed 5 over 896", x.feed(Checks.letters("     ")), OfficeTables.FULL);
        due("nothing of it came", x.count(4), 896);
        due("feed 4 over 896", x.feed(Checks.letters("    ")), 900);
        due("feed 0 over 900", x.feed(0), 900);
        due("feed 1 over 900", x.feed(' '), OfficeTables.FULL);
        due("count(4)", x.count(4), 900);
        due("read() of 900 blanks", x.read(), -1000);
        due("cut()", x.cut(), 900);
        due("cut() again", x.cut(), 0);
        due("feed after cut", x.feed('t'), 1);
        due("size after cut", x.size(0), OfficeTables.UNKNOWN);
    }

    private static void wellTold() {
        reading("table a[3]whole=i;", 1);
        reading("\n table\na [ 3 ] whole = i sum - 3 ;\n ", 1);
        reading("table abcde[000001]rows=999999;", 1);
        reading("table a[3]rows=-i+(i)*2/1%3-(i<1)+(i?1:2)sum-0;", 1);
        reading("table a[3]whole=b[i]+#b;table b[#a+1-1*1]rows=a[i];", 2);
        reading("table a[1]whole=1sum2;table b[1]whole=i;", 2);
        reading("table a[1+1+1+1+1+1+1+1]whole=i;", 1);
        reading("table a[1]whole=i" + repeat("+i", 23) + ";", 1);
        reading("table a[1]whole=" + repeat("(", 10) + "i" + repeat(")", 10) + ";", 1);
        reading("table a[1]whole=" + repeat("-", 10) + "i;", 1);
        reading("table a[1]whole=" + repeat("a[", 10) + "i" + repeat("]", 10) + ";", 1);
        StringBuilder twelve = new StringBuilder();
        for (String name : TWELVE) {
            twelve.append("table ").append(name).append("[1]whole=i;");
        }
        reading(twelve.toString(), 12);
        faultAt(twelve + " ^table n[1]whole=i;");
        faultAt(twelve + "^;");
    }

    private static void tokenFaults() {
        faultAt("^");
        faultAt(" \n^");
        faultAt("table^\ta[3]whole=i;");
        faultAt("table^\ra[3]whole=i;");
        faultAt("^tablea[3]whole=i;");
        faultAt("^whole a[3]whole=i;");
        faultAt("table ^abcdef[3]whole=i;");
        faultAt("table ^A[3]whole=i;");
        faultAt("table ^\u00e9[3]whole=i;");
        faultAt("table ^7[3]whole=i;");
        for (String word : new String[] {"table", "whole", "rows", "sum", "i"}) {
            faultAt("table ^" + word + "[3]whole=i;");
            faultAt("table a[#^" + word + "]whole=i;");
            faultAt("table a[3]whole=#^" + word + ";");
        }
        for (String word : new String[] {"table", "whole", "rows", "sum"}) {
            faultAt("table a[3]whole=^" + word + ";");
        }
        faultAt("table a^(3)whole=i;");
        faultAt("table a[^1234567]whole=i;");
        faultAt("table a[^]whole=i;");
        faultAt("table a[^+3]whole=i;");
        faultAt("table a[^-3]whole=i;");
        faultAt("table a[3^/2]whole=i;");
        faultAt("table a[3^%2]whole=i;");
        faultAt("table a[^(3)]whole=i;");
        faultAt("table a[3+^]whole=i;");
        faultAt("table a[3 ^3]whole=i;");
        faultAt("table a[#^3]whole=i;");
        faultAt("table a[^i]whole=i;");
        faultAt("table a[^a]whole=i;");
        faultAt("table a[3]^i=i;");
        faultAt("table a[3]^=i;");
        faultAt("table a[3]^sum=i;");
        faultAt("table a[3]whole ^i;");
        faultAt("table a[3]^wholei;");
        faultAt("table a[3]whole=i^");
        faultAt("table a[3]whole=i ^");
        faultAt("table a[3]whole=i;^;");
        faultAt("table a[3]whole=i;\n^x");
        faultAt("table a[3]whole=i;^tables;");
    }

    /** Every byte that begins no token, at every place where a token is due. */
    private static void strangeBytes() {
        String tokens = " \nabcdefghijklmnopqrstuvwxyz0123456789[]()=+-*/%<?:#;";
        for (char one = 1; one < 256; one++) {
            if (tokens.indexOf(one) < 0) {
                for (String marked : new String[] {"^!", "table^! a[3]whole=i;", "table ^![3]whole=i;", "table a^!3]whole=i;",
                    "table a[^!]whole=i;", "table a[#^!]whole=i;", "table a[3^!]whole=i;", "table a[3]^!=i;",
                    "table a[3]whole^!i;", "table a[3]whole=^!;", "table a[3]whole=#^!;", "table a[3]whole=(^!);",
                    "table a[3]whole=i^!", "table a[3]whole=i sum ^!;", "table a[3]whole=i;^!"}) {
                    faultAt(marked.replace('!', one));
                }
            }
        }
    }

    private static void sumFaults() {
        faultAt("table a[3]whole=^;");
        faultAt("table a[3]whole=^+i;");
        faultAt("table a[3]whole=i+^;");
        faultAt("table a[3]whole=i*^+i;");
        faultAt("table a[3]whole=i ^i;");
        faultAt("table a[3]whole=a^;");
        faultAt("table a[3]whole=a[i^;");
        faultAt("table a[3]whole=a[^];");
        faultAt("table a[3]whole=i^<i;");
        faultAt("table a[3]whole=i^?i:i;");
        faultAt("table a[3]whole=(^);");
        faultAt("table a[3]whole=(i^;");
        faultAt("table a[3]whole=(i<i^<i);");
        faultAt("table a[3]whole=(i<i^?i:i);");
        faultAt("table a[3]whole=(i?i^);");
        faultAt("table a[3]whole=(i^:i);");
        faultAt("table a[3]whole=(i?i:i^:i);");
        faultAt("table a[3]whole=(i?i:i^<i);");
        faultAt("table a[3]whole=i^);");
        faultAt("table a[3]whole=i^];");
        faultAt("table a[3]whole=i sum^;");
        faultAt("table a[3]whole=i sum-^-3;");
        faultAt("table a[3]whole=i sum ^+3;");
        faultAt("table a[3]whole=i sum ^#a;");
        faultAt("table a[3]whole=i sum ^i;");
        faultAt("table a[3]whole=i sum ^1234567;");
        faultAt("table a[3]whole=i sum 3 ^4;");
        faultAt("table a[3]whole=i sum 3^");
        faultAt("table a[3]whole=i sum 3^+3;");
        faultAt("table a[3]whole=isum^;");
        faultAt("table a[3]whole=i ^a;");
        faultAt("table a[3]whole=i sum^");
        faultAt("table a[3]whole=i sum ^table b[3]whole=i;");
        faultAt("table a[3]whole=(( ^));");
        faultAt("table a[3]whole=((i<^));");
        faultAt("table a[3]whole=((i?^));");
        faultAt("table a[3]whole=((i?i^));");
        faultAt("table a[3]whole=((i?i:^));");
        faultAt("table a[3]whole=(a[^]);");
        faultAt("table a[3]whole=a[(^];");
        faultAt("table a[3]whole=(-^);");
        faultAt("table a[3]whole=(--^);");
    }

    private static void tooMany() {
        faultAt("table a[1+1+1+1+1+1+1+1+^1]whole=i;");
        faultAt("table a[1*1*1*1*1*1*1*1*^#a]whole=i;");
        faultAt("table a[1]whole=i" + repeat("+i", 23) + "+^i;");
        faultAt("table a[1]whole=i" + repeat("+i", 23) + "+^#a;");
        faultAt("table a[1]whole=i" + repeat("+i", 23) + "*^(i);");
        faultAt("table a[1]whole=i" + repeat("*i", 22) + "-(^i);");
        faultAt("table a[1]whole=i" + repeat("*i", 22) + "*-^i;");
        faultAt("table a[1]whole=i" + repeat("+i", 22) + "+-^-i;");
        faultAt("table a[1]whole=i" + repeat("+i", 22) + "+a[^i];");
        faultAt("table a[1]whole=i" + repeat("+i", 21) + "+(i<^i);");
        faultAt("table a[1]whole=i" + repeat("+i", 20) + "+(i?i:^i);");
        reading("table a[1]whole=i" + repeat("+i", 19) + "+(i?i:i);", 1);
        reading("table a[1]whole=i" + repeat("+i", 23) + ";table b[1]whole=i" + repeat("+i", 23) + ";", 2);
        faultAt("table a[1]whole=" + repeat("(", 11) + "^i" + repeat(")", 11) + ";");
        faultAt("table a[1]whole=" + repeat("(", 11) + "^(i" + repeat(")", 12) + ";");
        faultAt("table a[1]whole=" + repeat("-", 11) + "^i;");
        faultAt("table a[1]whole=" + repeat("a[", 11) + "^i" + repeat("]", 11) + ";");
        faultAt("table a[1]whole=-(a[-(a[-(a[-(^i" + repeat(")])", 3) + ");");
        reading("table a[1]whole=-(a[-(a[-(a[-i" + repeat("])", 3) + ";", 1);
        faultAt("table a[1]whole=(i<" + repeat("(", 10) + "^i" + repeat(")", 10) + ");");
        faultAt("table a[1]whole=(i?" + repeat("(", 10) + "^i" + repeat(")", 10) + ":i);");
        faultAt("table a[1]whole=(i?i:" + repeat("(", 10) + "^i" + repeat(")", 10) + ");");
        reading("table a[1]whole=(i?" + repeat("(", 9) + "i" + repeat(")", 9) + ":i);", 1);
    }

    private static void nameFaults() {
        faultAt("table a[3]whole=^b[i];");
        faultAt("table a[3]whole=#^b;");
        faultAt("table a[#^a]whole=i;");
        faultAt("table a[#^b]whole=i;table b[1]whole=i;");
        faultAt("table a[1]whole=i;table b[#a+#^c]whole=i;table c[1]whole=i;");
        faultAt("table a[3]whole=i;table ^a[3]whole=i;");
        faultAt("table a[3]whole=i;table b[1]whole=i;table ^a[#z]whole=z[i];");
        faultAt("table a[3]whole=^b[i];table c[#d]whole=i;");
        faultAt("table a[3]whole=^b[c[i]]+#d;");
        faultAt("table a[3]whole=a[^c[i]]+#d;");
        faultAt("table a[3]whole=#^d+c[i];table a[1]whole=i;");
        faultAt("table a[#b]whole=b[i];^x");
        faultAt("table a[3]whole=i;table a[3]whole=b[i]^");
        faultAt("table a[3]whole=^aa[i];");
        faultAt("table aa[3]whole=^a[i];");
    }

    private static void readingStays() {
        OfficeTables x = Checks.of("table a[3]whole=i/a[i];");
        x.entry(0, 1);
        due("reason of the call", x.reason(0), 1);
        Checks.feed(x, "table b[2]whole=i");
        due("read() with a fault", x.read(), -117);
        due("the tape stays", x.count(4), 17);
        due("the tables stay", x.named('a'), 0);
        due("the new one is not there", x.named('b'), OfficeTables.NONE);
        due("its state stays", x.state(0), 3);
        due("builds stay", x.builds(), 1);
        due("halves stay", x.halves(), 1);
        due("reasons stay", x.reason(0), 1);
        Checks.feed(x, ";");
        due("read() of the rest", x.read(), 1);
        due("the tape is empty", x.count(4), 0);
        due("the old one is gone", x.named('a'), OfficeTables.NONE);
        due("the new one is there", x.named('b'), 0);
        due("it is asleep", x.state(0), 0);
        due("no builds", x.builds(), 0);
        due("no halves", x.halves(), 0);
        due("no kept build", x.build(0, 0), OfficeTables.UNKNOWN);
        due("no kept half", x.half(0, 0), OfficeTables.UNKNOWN);
        due("no reasons", x.reason(0), OfficeTables.NONE);
        due("entry of the new one", x.entry(0, 1), 1);
        Checks.feed(x, "table b[2]rows=i+4;");
        due("read() of a third text", x.read(), 1);
        due("asleep again", x.state(0), 0);
        due("entry of the third", x.entry(0, 1), 5);
        due("its row", x.row(0, 0), 2);
        Checks.feed(x, "table b[12]rows=i+5;");
        x.read();
        x.entry(0, 8);
        due("rows are asleep after read()", x.row(0, 0), 0);
    }

    private static void names() {
        OfficeTables x = Checks.of("table a[3]whole=i;table abcde[3]whole=i;table z[1]whole=i;");
        due("named(a)", x.named(Checks.letters("a")), 0);
        due("named(abcde)", x.named(Checks.letters("abcde")), 1);
        due("named(z)", x.named(Checks.letters("z")), 2);
        due("named(b)", x.named('b'), OfficeTables.NONE);
        due("named(abcd)", x.named(Checks.letters("abcd")), OfficeTables.NONE);
        due("named(edcba)", x.named(Checks.letters("edcba")), OfficeTables.NONE);
        due("named(abcdef)", x.named(Checks.letters("abcdef")), OfficeTables.NONE);
        due("named(table)", x.named(Checks.letters("table")), OfficeTables.NONE);
        due("named(0)", x.named(0), OfficeTables.NONE);
        due("named(-1)", x.named(-1), OfficeTables.NONE);
    }

    private static long sizeOf(String size) {
        OfficeTables x = Checks.of("table a[7]whole=i;table b[3-5]whole=i;table x[" + size + "]whole=i;");
        long told = x.size(2);
        due("builds() after size", x.builds(), 0);
        due("state after size", x.state(2), 0);
        return told;
    }

    private static void sizes() {
        due("size 0", sizeOf("0"), 0);
        due("size 2+3*4", sizeOf("2+3*4"), 20);
        due("size 2*3-4*5", sizeOf("2*3-4*5"), 10);
        due("size 9-3-2", sizeOf("9-3-2"), 4);
        due("size #a", sizeOf("#a"), 7);
        due("size 3*#a+#b-1", sizeOf("3*#a+#b-1"), 18);
        due("size 201", sizeOf("201"), 201);
        due("size 0-1", sizeOf("0-1"), -1);
        due("size 999999*999999", sizeOf("999999*999999"), (int) 999998000001L);
        long wrapped = 999999L * 999999L * 999999L * 999999L - 5;
        due("size wrapped", sizeOf("999999*999999*999999*999999-5"), (int) wrapped);
        OfficeTables x = Checks.of("table a[999999*999999*999999*999999]whole=i;table b[1]whole=#a;");
        due("# is all 64 bits", x.entry(1, 0), 999999L * 999999L * 999999L * 999999L);
        due("# wakes nothing", x.state(0), 0);
        due("size(-1)", x.size(-1), OfficeTables.UNKNOWN);
        due("size(2)", x.size(2), OfficeTables.UNKNOWN);
        due("size(max)", x.size(Integer.MAX_VALUE), OfficeTables.UNKNOWN);
        due("size(min)", x.size(Integer.MIN_VALUE), OfficeTables.UNKNOWN);
    }

    private static void reads() {
        OfficeTables x = Checks.of("table a[3]whole=#b+(1?2:c[i]);table b[3]whole=b[i]+#a;table c[1]rows=a[b[0]];");
        int[][] want = {{0, 0, 1}, {0, 1, 0}, {1, 1, 0}};
        for (int t = 0; t < 3; t++) {
            for (int other = 0; other < 3; other++) {
                due("reads(" + t + ", " + other + ")", x.reads(t, other), want[t][other]);
            }
        }
        due("reads(3, 0)", x.reads(3, 0), OfficeTables.UNKNOWN);
        due("reads(0, 3)", x.reads(0, 3), OfficeTables.UNKNOWN);
        due("reads(-1, 0)", x.reads(-1, 0), OfficeTables.UNKNOWN);
        due("reads(0, -1)", x.reads(0, -1), OfficeTables.UNKNOWN);
        due("reads wakes nothing", x.builds(), 0);
        OfficeTables y = Checks.of("table a[3]whole=1+0*#a;table b[3]whole=i+1;");
        due("numbers and # are no names: 0", y.reads(0, 0), 0);
        due("numbers and # are no names: 1", y.reads(1, 1), 0);
        due("a number 0 is no table 0", y.reads(1, 0), 0);
    }

    public static void main(String[] args) {
        newObject();
        constants();
        feeding();
        feedingFull();
        wellTold();
        tokenFaults();
        strangeBytes();
        sumFaults();
        tooMany();
        nameFaults();
        readingStays();
        names();
        sizes();
        reads();
        CHECKS.end("ReadingTest");
    }
}
