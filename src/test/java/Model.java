import java.math.BigInteger;
import java.util.ArrayList;
import java.util.Arrays;
import java.util.HashMap;
import java.util.List;
import java.util.Map;

/** The document once more, told in the plainest way: trees, exceptions, BigInteger; no limit on what it uses. */
final class Model {
    static final int ASLEEP = 0, UNDER_WAY = 1, READY = 2, FAILED = 3;

    static final class FaultAt extends Exception {
        final int place;

        FaultAt(int place) {
            this.place = place;
        }
    }

    /** A failure on its way up to the call, with the reasons from the outermost on. */
    static final class Failure extends Exception {
        final List<Integer> reasons = new ArrayList<>();
        final boolean direct;

        Failure(int own) {
            reasons.add(own);
            direct = true;
        }

        Failure(Failure inner, boolean innermost) {
            if (!innermost) {
                reasons.add(7);
            }
            reasons.addAll(inner.reasons);
            direct = false;
        }
    }

    static final class Token {
        String word;
        int place;
    }

    static final class Node {
        String kind;
        long number;
        Token name;
        Table table;
        Node[] parts;

        Node(String kind, Node... parts) {
            this.kind = kind;
            this.parts = parts;
        }
    }

    static final class Table {
        int number;
        Token name;
        long size;
        boolean byRows;
        Long promise;
        Node sum;
        int state = ASLEEP;
        long[] entries;
        int[] rows;
    }

    private byte[] tape = new byte[0];
    private List<Table> tables = new ArrayList<>();
    private final List<long[]> builds = new ArrayList<>();
    private final List<long[]> halves = new ArrayList<>();
    private List<Integer> reasons = new ArrayList<>();
    private int underWay = 0;

    // ---- the reading

    private List<Token> tokens;
    private int next;
    private int units;
    private final Map<Integer, Boolean> nameFaults = new HashMap<>();

    private static List<Token> split(byte[] tape) {
        List<Token> all = new ArrayList<>();
        String text = new String(tape, java.nio.charset.StandardCharsets.ISO_8859_1);
        java.util.regex.Matcher m =
            java.util.regex.Pattern.compile("[ \\n]+|[0-9]+|[a-z]+|(?s).").matcher(text);
        while (m.find()) {
            String word = m.group();
            if (word.charAt(0) == ' ' || word.charAt(0) == '\n') {
                continue;
            }
            Token t = new Token();
            t.place = m.start();
            boolean digits = word.matches("[0-9]+"), letters = word.matches("[a-z]+");
            boolean good = digits ? word.length() <= 6 : letters ? word.length() <= 5
                : "[]()=+-*/%<?:#;".contains(word);
            t.word = good ? word : "BAD";
            all.add(t);
        }
        Token end = new Token();
        end.place = tape.length;
        end.word = "";
        all.add(end);
        return all;
    }

    private Token look() {
        return tokens.get(Math.min(next, tokens.size() - 1));
    }

    private boolean is(String word) {
        return look().word.equals(word);
    }

    private Token expect(String... words) throws FaultAt {
        if (!Arrays.asList(words).contains(look().word)) {
            throw new FaultAt(look().place);
        }
        return tokens.get(next++);
    }

    private boolean isNumber() {
        return look().word.matches("[0-9]+");
    }

    private boolean isName() {
        return look().word.matches("[a-z]+") && !Arrays.asList("table", "whole", "rows", "sum", "i").contains(look().word);
    }

    private Token expectName() throws FaultAt {
        if (!isName()) {
            throw new FaultAt(look().place);
        }
        return tokens.get(next++);
    }

    private long expectNumber() throws FaultAt {
        if (!isNumber()) {
            throw new FaultAt(look().place);
        }
        return Long.parseLong(tokens.get(next++).word);
    }

    private static Table byName(List<Table> told, String name) {
        for (Table t : told) {
            if (t.name.word.equals(name)) {
                return t;
            }
        }
        return null;
    }

    private List<Table> parse() throws FaultAt {
        tokens = split(tape);
        next = 0;
        nameFaults.clear();
        List<Table> told = new ArrayList<>();
        List<Node> named = new ArrayList<>();
        do {
            if (told.size() == 12) {
                throw new FaultAt(look().place);
            }
            Table t = new Table();
            expect("table");
            t.name = expectName();
            if (byName(told, t.name.word) != null) {
                nameFaults.put(t.name.place, true);
            }
            expect("[");
            t.size = parseSize(told);
            expect("]");
            t.byRows = expect("whole", "rows").word.equals("rows");
            expect("=");
            units = 0;
            t.sum = parseSum(0, named);
            if (is("sum")) {
                next++;
                long sign = 1;
                if (is("-")) {
                    next++;
                    sign = -1;
                }
                t.promise = sign * expectNumber();
            }
            expect(";");
            t.number = told.size();
            told.add(t);
        } while (!is(""));
        for (Node n : named) {
            n.table = byName(told, n.name.word);
            if (n.table == null) {
                nameFaults.put(n.name.place, true);
            }
        }
        if (!nameFaults.isEmpty()) {
            int least = Integer.MAX_VALUE;
            for (int place : nameFaults.keySet()) {
                least = Math.min(least, place);
            }
            throw new FaultAt(least);
        }
        return told;
    }

    private long parseSize(List<Table> ahead) throws FaultAt {
        long size = parsePart(ahead);
        for (int parts = 2; is("+") || is("-") || is("*"); parts++) {
            String sign = tokens.get(next++).word;
            if (parts > 8) {
                throw new FaultAt(look().place);
            }
            long part = parsePart(ahead);
            size = sign.equals("+") ? size + part : sign.equals("-") ? size - part : size * part;
        }
        return size;
    }

    private long parsePart(List<Table> ahead) throws FaultAt {
        if (isNumber()) {
            return expectNumber();
        }
        expect("#");
        Token name = expectName();
        Table t = byName(ahead, name.word);
        if (t == null) {
            nameFaults.put(name.place, true);
            return 0;
        }
        return t.size;
    }

    private Node parseSum(int around, List<Node> named) throws FaultAt {
        Node left = parseProduct(around, named);
        while (is("+") || is("-")) {
            String sign = tokens.get(next++).word;
            left = new Node(sign, left, parseProduct(around, named));
        }
        return left;
    }

    private Node parseProduct(int around, List<Node> named) throws FaultAt {
        Node left = parseUnit(around, named);
        while (is("*") || is("/") || is("%")) {
            String sign = tokens.get(next++).word;
            left = new Node(sign, left, parseUnit(around, named));
        }
        return left;
    }

    private Node parseUnit(int around, List<Node> named) throws FaultAt {
        units++;
        if (units == 25 || around > 10) {
            throw new FaultAt(look().place);
        }
        if (isNumber()) {
            Node n = new Node("number");
            n.number = expectNumber();
            return n;
        }
        if (isName()) {
            Token name = expectName();
            expect("[");
            Node n = new Node("entry", parseSum(around + 1, named));
            expect("]");
            n.name = name;
            named.add(n);
            return n;
        }
        switch (expect("i", "#", "-", "(").word) {
            case "i":
                return new Node("i");
            case "#":
                Node n = new Node("size");
                n.name = expectName();
                named.add(n);
                return n;
            case "-":
                return new Node("minus", parseUnit(around + 1, named));
            default:
                Node first = parseSum(around + 1, named);
                if (is("<")) {
                    next++;
                    first = new Node("<", first, parseSum(around + 1, named));
                } else if (is("?")) {
                    next++;
                    Node second = parseSum(around + 1, named);
                    expect(":");
                    first = new Node("?", first, second, parseSum(around + 1, named));
                }
                expect(")");
                return first;
        }
    }

    // ---- the making

    private long work(Node n, Table maker, int i) throws Failure {
        switch (n.kind) {
            case "number":
                return n.number;
            case "i":
                return i;
            case "size":
                return n.table.size;
            case "minus":
                return -work(n.parts[0], maker, i);
            case "?":
                return work(n.parts[0], maker, i) != 0 ? work(n.parts[1], maker, i) : work(n.parts[2], maker, i);
            case "entry":
                return ask(n.table, work(n.parts[0], maker, i), maker);
            default:
                long left = work(n.parts[0], maker, i);
                long right = work(n.parts[1], maker, i);
                return pair(n.kind, left, right);
        }
    }

    private static long pair(String sign, long left, long right) throws Failure {
        switch (sign) {
            case "+":
                return left + right;
            case "-":
                return left - right;
            case "*":
                return left * right;
            case "<":
                return left < right ? 1 : 0;
            default:
                if (right == 0) {
                    throw new Failure(1);
                }
                return sign.equals("/") ? left / right : left % right;
        }
    }

    private long ask(Table t, long place, Table maker) throws Failure {
        if (t.state == FAILED) {
            throw new Failure(6);
        }
        if (t.state == ASLEEP) {
            wake(t, maker);
        }
        if (place < 0 || place >= t.size) {
            throw new Failure(2);
        }
        int p = (int) place;
        if (t.byRows && t.state == READY) {
            if (t.rows[p / 8] == FAILED) {
                throw new Failure(6);
            }
            if (t.rows[p / 8] == ASLEEP) {
                makeRow(t, p / 8, maker);
            }
        }
        if (t.state == UNDER_WAY || t.byRows && t.rows[p / 8] == UNDER_WAY) {
            halves.add(new long[] {t.number, p, maker.number, t.entries[p]});
        }
        return t.entries[p];
    }

    private void wake(Table t, Table maker) throws Failure {
        if (underWay == 12) {
            throw new Failure(8);
        }
        builds.add(new long[] {t.number, -9, maker == null ? -9 : maker.number});
        t.state = UNDER_WAY;
        underWay++;
        try {
            fill(t);
            t.state = READY;
        } catch (Failure f) {
            t.state = FAILED;
            t.entries = null;
            throw new Failure(f, f.direct);
        } finally {
            underWay--;
        }
    }

    private void fill(Table t) throws Failure {
        if (t.size < 0) {
            throw new Failure(3);
        }
        if (t.size > 200) {
            throw new Failure(4);
        }
        t.entries = new long[(int) t.size];
        t.rows = new int[((int) t.size + 7) / 8];
        if (!t.byRows) {
            for (int p = 0; p < t.size; p++) {
                t.entries[p] = work(t.sum, t, p);
            }
        }
        if (t.promise != null) {
            for (int r = 0; t.byRows && r < t.rows.length; r++) {
                makeRow(t, r, null);
            }
            BigInteger sum = BigInteger.ZERO;
            for (long one : t.entries) {
                sum = sum.add(BigInteger.valueOf(one));
            }
            if (!sum.equals(BigInteger.valueOf(t.promise))) {
                throw new Failure(5);
            }
        }
    }

    private void makeRow(Table t, int row, Table maker) throws Failure {
        if (underWay == 12) {
            throw new Failure(8);
        }
        builds.add(new long[] {t.number, row, maker == null ? -9 : maker.number});
        t.rows[row] = UNDER_WAY;
        underWay++;
        try {
            for (int p = 8 * row; p < 8 * row + 8 && p < t.size; p++) {
                t.entries[p] = work(t.sum, t, p);
            }
            t.rows[row] = READY;
        } catch (Failure f) {
            t.rows[row] = FAILED;
            throw new Failure(f, f.direct);
        } finally {
            underWay--;
        }
    }

    // ---- the face

    private boolean unknown(int table) {
        return table < 0 || table >= tables.size();
    }

    int feed(long w) {
        int more = 0;
        while (more < 8 && ((w >> 8 * more) & 255) != 0) {
            more++;
        }
        if (tape.length + more > 900) {
            return -4;
        }
        int had = tape.length;
        tape = Arrays.copyOf(tape, had + more);
        for (int k = 0; k < more; k++) {
            tape[had + k] = (byte) (w >> 8 * k);
        }
        return tape.length;
    }

    int read() {
        try {
            tables = parse();
        } catch (FaultAt fault) {
            return -100 - fault.place;
        }
        tape = new byte[0];
        builds.clear();
        halves.clear();
        reasons.clear();
        return tables.size();
    }

    int cut() {
        int had = tape.length;
        tape = new byte[0];
        return had;
    }

    int named(long letters) {
        for (Table t : tables) {
            if (Checks.letters(t.name.word) == letters) {
                return t.number;
            }
        }
        return -9;
    }

    int size(int table) {
        return unknown(table) ? -1 : (int) tables.get(table).size;
    }

    int state(int table) {
        return unknown(table) ? -1 : tables.get(table).state;
    }

    int row(int table, int row) {
        if (unknown(table)) {
            return -1;
        }
        Table t = tables.get(table);
        if (!t.byRows || t.state != READY) {
            return -3;
        }
        return row < 0 || row >= t.rows.length ? -2 : t.rows[row];
    }

    long entry(int table, int place) {
        reasons = new ArrayList<>();
        if (unknown(table)) {
            return 0;
        }
        try {
            return ask(tables.get(table), place, null);
        } catch (Failure f) {
            reasons = f.reasons;
            return 0;
        }
    }

    int reason(int k) {
        return k < 0 || k >= reasons.size() ? -9 : reasons.get(k);
    }

    long sum(int table, int from, int to, int k) {
        if (unknown(table)) {
            return -1;
        }
        if (k < 0 || k > 2 || to < from || to > from + 1000L) {
            return -2;
        }
        reasons = new ArrayList<>();
        BigInteger sum = BigInteger.ZERO;
        try {
            for (int p = from; ; p++) {
                sum = sum.add(BigInteger.valueOf(ask(tables.get(table), p, null)));
                if (p == to) {
                    break;
                }
            }
        } catch (Failure f) {
            reasons = f.reasons;
            return 0;
        }
        return sum.shiftRight(32 * k).and(BigInteger.valueOf(0xFFFFFFFFL)).longValueExact();
    }

    int find(int table, long v) {
        if (unknown(table)) {
            return -1;
        }
        Table t = tables.get(table);
        reasons = new ArrayList<>();
        try {
            if (t.state == FAILED) {
                throw new Failure(6);
            }
            if (t.state == ASLEEP) {
                wake(t, null);
            }
            for (int p = 0; p < t.size; p++) {
                if (ask(t, p, null) == v) {
                    return p;
                }
            }
            return -9;
        } catch (Failure f) {
            reasons = f.reasons;
            return -10;
        }
    }

    int drop(int table) {
        if (unknown(table)) {
            return -1;
        }
        Table t = tables.get(table);
        if (t.state != READY) {
            return -3;
        }
        t.state = ASLEEP;
        return t.entries.length;
    }

    int builds() {
        return builds.size();
    }

    int build(int i, int what) {
        if (i < 0 || i >= Math.min(100, builds.size())) {
            return -1;
        }
        return what < 0 || what > 2 ? -2 : (int) builds.get(i)[what];
    }

    int halves() {
        return halves.size();
    }

    long half(int i, int what) {
        if (i < 0 || i >= Math.min(100, halves.size())) {
            return -1;
        }
        return what < 0 || what > 3 ? -2 : halves.get(i)[what];
    }

    private static boolean namesIn(Node n, Table other) {
        boolean found = n.kind.equals("entry") && n.table == other;
        for (Node part : n.parts) {
            found |= namesIn(part, other);
        }
        return found;
    }

    int reads(int table, int other) {
        if (unknown(table) || unknown(other)) {
            return -1;
        }
        return namesIn(tables.get(table).sum, tables.get(other)) ? 1 : 0;
    }

    int count(int what) {
        int ready = 0, failed = 0, entries = 0;
        for (Table t : tables) {
            ready += t.state == READY ? 1 : 0;
            failed += t.state == FAILED ? 1 : 0;
            for (int p = 0; t.state == READY && p < t.size; p++) {
                entries += !t.byRows || t.rows[p / 8] == READY ? 1 : 0;
            }
        }
        int[] all = {tables.size(), ready, failed, entries, tape.length};
        return what < 0 || what > 4 ? -2 : all[what];
    }
}
