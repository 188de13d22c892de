import java.util.ArrayList;
import java.util.List;
import java.util.Random;

/** Random texts and calls, each answered by OfficeTables and by the Model. Arguments: how many runs, the first seed. */
public final class RandomRunsTest {
    private static final String[] NAMES = {"a", "b", "c", "d", "e", "f", "g", "h", "j", "k", "l", "m", "abcde", "zz", "su"};
    private static final String[] PIECES = {"table", "whole", "rows", "sum", "i", "a", "b", "zzzzz", "abcdef", "0", "7",
        "999999", "1000000", "[", "]", "(", ")", "=", "+", "-", "*", "/", "%", "<", "?", ":", "#", ";", " ", "\n", "\t",
        "A", "_", "\u00e9", "1", "-", "(", ")", "--", "((", "))"};

    private final Random random;
    private final Checks checks;
    private final StringBuilder calls = new StringBuilder();
    private OfficeTables tables;
    private Model model;
    private List<Long> seen = new ArrayList<>();
    private int made;
    /** A gentle text has few places that are none, and sums that can be promised rightly. */
    private boolean gentle;

    private RandomRunsTest(Random random, Checks checks) {
        this.random = random;
        this.checks = checks;
    }

    private int below(int n) {
        return random.nextInt(n);
    }

    private boolean oneIn(int n) {
        return random.nextInt(n) == 0;
    }

    private void same(String call, long got, long want) {
        made++;
        calls.append(call).append(" = ").append(want).append('\n');
        if (checks.allRight()) {
            checks.due(call, got, want);
            if (!checks.allRight()) {
                System.out.println(calls);
            }
        }
    }

    // ---- texts

    private String pickName(int told) {
        return oneIn(400) ? NAMES[below(NAMES.length)] : NAMES[below(Math.max(1, told))];
    }

    private String unit(int depth, int told, int[] units) {
        units[0]--;
        int kind = below(units[0] < (gentle ? 7 : 4) || depth > 9 ? 5 : gentle ? 10 : 11);
        String place = gentle && !oneIn(20) ? "(i+" + below(9) + ")%" + (4 + below(5))
            : oneIn(3) ? "i" : "i-" + (1 + below(9));
        switch (kind) {
            case 0:
                return String.valueOf(oneIn(6) ? below(1000000) : below(6));
            case 1:
            case 2:
                return "i";
            case 3:
                return "#" + pickName(told);
            case 4:
                return oneIn(2) ? "i" : "3";
            case 5:
                return "-" + unit(depth + 1, told, units);
            case 6:
                return "(" + formula(depth + 1, told, units) + ")";
            case 7:
                return "((i<" + below(30) + ")?" + formula(depth + 1, told, units) + ":" + formula(depth + 1, told, units)
                    + ")";
            case 8:
                return "(" + formula(depth + 1, told, units) + "<" + formula(depth + 1, told, units) + ")";
            case 9:
                return pickName(told) + "[" + place + "]";
            default:
                return pickName(told) + "[" + formula(depth + 1, told, units) + "]";
        }
    }

    private String formula(int depth, int told, int[] units) {
        StringBuilder sum = new StringBuilder(unit(depth, told, units));
        String signs = oneIn(4) && !gentle ? "+-*/%" : "+-*+";
        while (units[0] > 2 && oneIn(2)) {
            sum.append(signs.charAt(below(signs.length()))).append(unit(depth, told, units));
        }
        return sum.toString();
    }

    private String size(int ahead) {
        if (gentle) {
            return String.valueOf(8 + below(oneIn(3) ? 30 : 9));
        }
        if (oneIn(12) && (ahead > 0 || oneIn(9))) {
            return "#" + pickName(ahead) + (oneIn(2) ? "-" : "*") + below(9) + (oneIn(2) ? "+#" + pickName(ahead) : "");
        }
        if (oneIn(30)) {
            return "999999*999999*" + below(999999) + "*" + below(999999);
        }
        if (oneIn(14)) {
            return oneIn(2) ? "3-" + below(8) : "200+" + below(2);
        }
        return String.valueOf(oneIn(8) ? below(201) : below(26));
    }

    private String text(int several) {
        StringBuilder text = new StringBuilder();
        for (int k = 0; k < several; k++) {
            String size = size(k);
            int many = size.matches("[0-9]+") ? Integer.parseInt(size) : 5;
            String sum = formula(0, oneIn(5) ? k + 1 : several, new int[] {3 + below(oneIn(6) ? 24 : 12)});
            if (oneIn(6)) {
                sum = NAMES[(k + 1) % several] + "[" + (oneIn(2) ? "i" : "0") + "]" + (oneIn(3) ? "+i" : "");
            }
            String end = ";";
            if (oneIn(5)) {
                boolean right = oneIn(2);
                sum = right ? "i " : "(" + sum;
                end = oneIn(3) ? (right ? "" : ")") + "sum-" + below(9) + ";" : ")sum ".substring(right ? 1 : 0) + (right ? many * (many - 1) / 2 : 0) + ";";
            }
            text.append("table ").append(oneIn(300) ? pickName(several) : NAMES[k]).append("[").append(size).append("]");
            text.append(oneIn(2) ? "whole" : "rows").append("=").append(sum).append(end);
            if (oneIn(3)) {
                text.append(oneIn(2) ? " " : "\n");
            }
        }
        return text.toString();
    }

    /** The text, with a table's sum promised as it is without the promise (or nearly so). */
    private String promised(String text) {
        Model alone = new Model();
        byte[] bytes = Checks.bytes(text);
        for (int k = 0; k < bytes.length; k += 8) {
            alone.feed(Checks.word(bytes, k));
        }
        int told = alone.read();
        String[] parts = text.split(";");
        for (int k = 0; k < 3 && told > 0; k++) {
            int t = below(told);
            long low = alone.sum(t, 0, alone.size(t) - 1, 0), high = alone.sum(t, 0, alone.size(t) - 1, 1);
            long sum = (high << 32 | low) + (oneIn(9) ? 1 : 0);
            if (Math.abs(sum) <= 999999 && !parts[t].contains("sum")) {
                parts[t] += " sum " + (sum < 0 ? "-" : "") + Math.abs(sum);
            }
        }
        return String.join(";", parts) + ";";
    }

    private String spoilt(String text) {
        StringBuilder spoilt = new StringBuilder(text);
        for (int k = 1 + below(2); k > 0 && spoilt.length() > 0; k--) {
            int at = below(spoilt.length());
            int end = Math.min(spoilt.length(), at + below(3));
            spoilt.replace(at, end, oneIn(3) ? "" : PIECES[below(PIECES.length)]);
        }
        return spoilt.toString();
    }

    private static String tower() {
        return "((((((((((i))))))))))";
    }

    private String anyText() {
        gentle = oneIn(2);
        int several = oneIn(30) ? 13 : 1 + below(12);
        String text = oneIn(25) ? text(1).replaceFirst("=", "=" + tower() + "+") : text(several);
        if (text.length() > 900 && !oneIn(4)) {
            text = text(1 + below(4));
        }
        if (gentle) {
            text = promised(text.strip());
        }
        return oneIn(6) ? spoilt(text) : text;
    }

    // ---- calls

    private void feed(String text) {
        byte[] bytes = Checks.bytes(text);
        for (int k = 0; k < bytes.length; ) {
            int some = oneIn(3) ? 1 + below(8) : 8;
            byte[] next = java.util.Arrays.copyOfRange(bytes, k, Math.min(bytes.length, k + some));
            feedWord(Checks.word(next, 0));
            k += some;
        }
    }

    private void feedWord(long w) {
        same("feed(" + w + ")", tables.feed(w), model.feed(w));
    }

    private void readText() {
        if (!oneIn(6)) {
            same("cut()", tables.cut(), model.cut());
        }
        String text = anyText();
        feed(text);
        calls.append("    ").append(text).append('\n');
        same("read()", tables.read(), model.read());
    }

    private int table() {
        int told = model.count(0);
        return oneIn(25) ? below(16) - 2 : below(Math.max(1, told));
    }

    private int place(int table) {
        int size = Math.max(1, Math.min(200, model.size(table)));
        return oneIn(12) ? below(220) - 9 : oneIn(30) ? random.nextInt() : below(size);
    }

    private long wanted() {
        return seen.isEmpty() || oneIn(3) ? below(40) - 5 : seen.get(below(seen.size()));
    }

    private void allReasons() {
        for (int k = oneIn(9) ? -1 : 0; k < 13; k++) {
            int want = model.reason(k);
            same("reason(" + k + ")", tables.reason(k), want);
            if (want == -9 && k >= 0) {
                break;
            }
        }
    }

    private void anyAsking() {
        int t = table(), p = place(t);
        int kind = below(8);
        if (kind < 5) {
            long want = model.entry(t, p);
            same("entry(" + t + "," + p + ")", tables.entry(t, p), want);
            seen.add(want);
        } else if (kind == 5) {
            int to = oneIn(20) ? p + 995 + below(10) : p + below(12) - (oneIn(9) ? 2 : 0);
            int part = oneIn(15) ? below(6) - 2 : below(3);
            same("sum(" + t + "," + p + "," + to + "," + part + ")", tables.sum(t, p, to, part), model.sum(t, p, to, part));
        } else if (kind == 6) {
            long v = wanted();
            same("find(" + t + "," + v + ")", tables.find(t, v), model.find(t, v));
        } else {
            same("drop(" + t + ")", tables.drop(t), model.drop(t));
        }
        if (oneIn(2)) {
            allReasons();
        }
    }

    private void anyLook() {
        int t = table(), other = table(), i = oneIn(3) ? below(104) - 2 : below(12), what = below(7) - 1;
        long name = oneIn(9) ? random.nextLong() : Checks.letters(NAMES[below(NAMES.length)]);
        switch (below(11)) {
            case 0:
                same("named(" + name + ")", tables.named(name), model.named(name));
                break;
            case 1:
                same("size(" + t + ")", tables.size(t), model.size(t));
                break;
            case 2:
            case 3:
                same("state(" + t + ")", tables.state(t), model.state(t));
                break;
            case 4:
                same("row(" + t + "," + i + ")", tables.row(t, i), model.row(t, i));
                break;
            case 5:
                same("builds()", tables.builds(), model.builds());
                break;
            case 6:
                same("build(" + i + "," + what + ")", tables.build(i, what), model.build(i, what));
                break;
            case 7:
                same("halves()", tables.halves(), model.halves());
                break;
            case 8:
                same("half(" + i + "," + what + ")", tables.half(i, what), model.half(i, what));
                break;
            case 9:
                same("reads(" + t + "," + other + ")", tables.reads(t, other), model.reads(t, other));
                break;
            default:
                same("count(" + what + ")", tables.count(what), model.count(what));
        }
    }

    private void allLooks() {
        for (int i = 0; i < 101; i++) {
            for (int what = 0; what < 4; what++) {
                same("build(" + i + "," + what + ")", tables.build(i, what), model.build(i, what));
                same("half(" + i + "," + what + ")", tables.half(i, what), model.half(i, what));
            }
        }
        for (int t = -1; t < 13; t++) {
            same("state(" + t + ")", tables.state(t), model.state(t));
            for (int other = -1; other < 26; other++) {
                same("row(" + t + "," + other + ")", tables.row(t, other), model.row(t, other));
                same("reads(" + t + "," + other + ")", tables.reads(t, other), model.reads(t, other));
            }
        }
        for (int what = -1; what < 6; what++) {
            same("count(" + what + ")", tables.count(what), model.count(what));
        }
        same("builds()", tables.builds(), model.builds());
        same("halves()", tables.halves(), model.halves());
    }

    private void run() {
        tables = new OfficeTables();
        model = new Model();
        for (int texts = 0; texts < 4; texts++) {
            readText();
            for (int k = 0; k < 40; k++) {
                if (oneIn(2)) {
                    anyAsking();
                } else {
                    anyLook();
                }
                if (oneIn(40)) {
                    feedWord(random.nextLong());
                }
            }
            allLooks();
        }
    }

    public static void main(String[] args) {
        int runs = args.length > 0 ? Integer.parseInt(args[0]) : 3000;
        int first = args.length > 1 ? Integer.parseInt(args[1]) : 1;
        Checks checks = new Checks();
        long made = 0;
        for (int seed = first; seed < first + runs && checks.allRight(); seed++) {
            RandomRunsTest one = new RandomRunsTest(new Random(seed), checks);
            try {
                one.run();
            } catch (RuntimeException | StackOverflowError thrown) {
                checks.fault("seed " + seed + " threw " + thrown + " after\n" + one.calls);
            }
            if (!checks.allRight()) {
                System.out.println("seed " + seed);
            }
            made += one.made;
        }
        System.out.println(runs + " random runs, " + made + " calls");
        checks.end("RandomRunsTest");
    }
}
