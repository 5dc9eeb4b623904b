import java.util.ArrayList;
import java.util.Arrays;
import java.util.HashMap;
import java.util.List;
import java.util.Map;
import java.util.TreeSet;
import java.util.regex.Matcher;
import java.util.regex.Pattern;

/** A second reading of the document, as plain as can be and without regard to speed. */
final class Model {
    static final long NO = Long.MIN_VALUE;
    private static final Map<String, List<int[]>> CHARACTERS = new HashMap<>();

    private int kind = 0, size = 2, figure = 0;
    private int[][][] table = new int[5][5][5];
    private int[][] elements = new int[4][5];
    private int[][] s = new int[5][5];
    private int[] twist = new int[5];
    private List<int[]> plan = new ArrayList<>();
    private Model image = null;
    private String tape = "";
    private String paper = "";
    private final long[][] lists = new long[4][];

    int set(int what, int v) {
        int was = of(what);
        if (was == -1) {
            return -1;
        }
        int[][] range = {{0, 4}, {1, 5}, {0, 9}};
        if (v < range[what][0] || v > range[what][1]) {
            return -2;
        }
        if (what == 0) {
            kind = v;
        } else if (what == 1) {
            size = v;
        } else {
            figure = v;
        }
        return was;
    }

    int of(int what) {
        return what == 0 ? kind : what == 1 ? size : what == 2 ? figure : -1;
    }

    private static boolean within(int low, int v, int high) {
        return low <= v && v <= high;
    }

    private boolean sort(int... all) {
        return Arrays.stream(all).allMatch(i -> within(0, i, size - 1));
    }

    int tell(int i, int j, int k, int v) {
        if (!within(1, i, 4) || !within(1, j, 4) || !within(0, k, 4)) {
            return -1;
        }
        if (!within(0, v, 9)) {
            return -2;
        }
        int was = table[i][j][k];
        table[i][j][k] = v;
        return was;
    }

    int feed(int letter) {
        if (!within(1, letter, 127)) {
            return -2;
        }
        if (tape.length() == 60) {
            return -4;
        }
        tape += (char) letter;
        return tape.length();
    }

    /** The place of the first byte with which no text of the pattern goes on, or -1 if the text is whole. */
    private static int fault(Pattern pattern, String text) {
        for (int length = 0; length <= text.length(); length++) {
            Matcher matcher = pattern.matcher(text.substring(0, length));
            boolean whole = matcher.matches();
            if (!whole && !matcher.hitEnd()) {
                return length - 1;
            }
            if (length == text.length()) {
                return whole ? -1 : length;
            }
        }
        throw new IllegalStateException();
    }

    int rules() {
        String text = tape;
        tape = "";
        if (size == 1) {
            return -100;
        }
        String pair = "[b-" + (char) ('a' + size - 1) + "]";
        String any = "[a-" + (char) ('a' + size - 1) + "]";
        String sum = "(?:0|[2-9]?" + any + "(?:\\+[2-9]?" + any + ")*)";
        String clause = pair + "\\*" + pair + "=" + sum;
        int fault = fault(Pattern.compile(clause + "(?:;" + clause + ")*"), text);
        if (fault >= 0) {
            return -100 - fault;
        }
        String[] clauses = text.split(";");
        for (String told : clauses) {
            int i = told.charAt(0) - 'a';
            int j = told.charAt(2) - 'a';
            int[] numbers = numbers(told.substring(4), 9);
            table[i][j] = numbers.clone();
            table[j][i] = numbers.clone();
        }
        return clauses.length;
    }

    private static int[] numbers(String sum, int most) {
        int[] numbers = new int[5];
        if (!sum.equals("0")) {
            for (String term : sum.split("\\+")) {
                int sort = term.charAt(term.length() - 1) - 'a';
                int number = term.length() == 1 ? 1 : Integer.parseInt(term.substring(0, term.length() - 1));
                numbers[sort] = Math.min(most, numbers[sort] + number);
            }
        }
        return numbers;
    }

    int often(int i, int j, int k) {
        return sort(i, j, k) ? n(i, j, k) : -1;
    }

    private int n(int i, int j, int k) {
        if (i == 0) {
            return j == k ? 1 : 0;
        }
        if (j == 0) {
            return i == k ? 1 : 0;
        }
        int t = size - 1;
        if (kind == 0) {
            return table[i][j][k];
        }
        if (kind == 1) {
            return (i + j) % size == k ? 1 : 0;
        }
        if (kind == 2) {
            for (int step = Math.abs(i - j); step <= Math.min(i + j, 2 * size - 2 - i - j); step += 2) {
                if (step == k) {
                    return 1;
                }
            }
            return 0;
        }
        if (i == t && j == t) {
            return k != t ? 1 : kind == 4 ? figure : 0;
        }
        if (i == t || j == t) {
            return k == t ? 1 : 0;
        }
        return (i + j) % (size - 1) == k ? 1 : 0;
    }

    private long[] unit(int i) {
        long[] row = new long[5];
        row[i] = 1;
        return row;
    }

    private long[] join(long[] one, long[] other) {
        long[] both = new long[5];
        for (int i = 0; i < size; i++) {
            for (int j = 0; j < size; j++) {
                for (int k = 0; k < size; k++) {
                    both[k] += one[i] * other[j] * n(i, j, k);
                }
            }
        }
        return both;
    }

    int clash(int what) {
        if (what != 0 && what != 1) {
            return -1;
        }
        for (int i = 0; i < size; i++) {
            for (int j = 0; j < size; j++) {
                if (what == 1 && !Arrays.equals(join(unit(i), unit(j)), join(unit(j), unit(i)))) {
                    return 10 * i + j;
                }
                for (int k = 0; what == 0 && k < size; k++) {
                    long[] first = join(join(unit(i), unit(j)), unit(k));
                    long[] second = join(unit(i), join(unit(j), unit(k)));
                    for (int l = 0; l < size; l++) {
                        if (first[l] != second[l]) {
                            return 1000 * i + 100 * j + 10 * k + l;
                        }
                    }
                }
            }
        }
        return -5;
    }

    int partner(int i) {
        if (!sort(i)) {
            return -1;
        }
        List<Integer> all = new ArrayList<>();
        for (int j = 0; j < size; j++) {
            if (n(i, j, 0) > 0) {
                all.add(j);
            }
        }
        return all.size() == 1 && n(i, all.get(0), 0) == 1 ? all.get(0) : -5;
    }

    long power(int i, int m, int k) {
        if (!sort(i, k) || !within(0, m, 8)) {
            return NO;
        }
        long[] row = unit(0);
        for (int times = 0; times < m; times++) {
            row = join(row, unit(i));
        }
        return row[k];
    }

    int element(int element) {
        if (!within(0, element, 3)) {
            return -1;
        }
        String text = tape;
        tape = "";
        String any = "(?:[1-9][0-9]?[0-9]?)?[a-" + (char) ('a' + size - 1) + "]";
        int fault = fault(Pattern.compile("0|" + any + "(?:\\+" + any + ")*"), text);
        if (fault >= 0) {
            return -100 - fault;
        }
        System.arraycopy(numbers(text, 999), 0, elements[element], 0, size);
        return text.equals("0") ? 0 : text.split("\\+").length;
    }

    int has(int element, int sort) {
        return within(0, element, 3) && sort(sort) ? elements[element][sort] : -1;
    }

    int give(int element, int sort, int v) {
        int was = has(element, sort);
        if (was == -1) {
            return -1;
        }
        if (!within(0, v, 999)) {
            return -2;
        }
        elements[element][sort] = v;
        return was;
    }

    private long[] longs(int element) {
        return Arrays.stream(elements[element]).asLongStream().toArray();
    }

    int together(int one, int other) {
        if (!within(0, one, 3) || !within(0, other, 3)) {
            return -1;
        }
        long[] both = join(longs(one), longs(other));
        long all = 0;
        for (int k = 0; k < size; k++) {
            if (both[k] > 999) {
                return -3;
            }
            all += both[k];
        }
        for (int k = 0; k < size; k++) {
            elements[one][k] = (int) both[k];
        }
        return (int) all;
    }

    private boolean isClosed(int set) {
        if (set % 2 == 0) {
            return false;
        }
        for (int i = 0; i < size; i++) {
            for (int j = 0; j < size; j++) {
                for (int k = 0; k < size; k++) {
                    boolean both = (set & 1 << i) != 0 && (set & 1 << j) != 0;
                    if (both && n(i, j, k) > 0 && (set & 1 << k) == 0) {
                        return false;
                    }
                }
            }
        }
        return true;
    }

    private boolean isSet(int set) {
        return within(0, set, (1 << size) - 1);
    }

    int closed(int set) {
        return !isSet(set) ? -2 : isClosed(set) ? 1 : 0;
    }

    private List<Integer> allClosed() {
        List<Integer> all = new ArrayList<>();
        for (int set = 0; set < 1 << size; set++) {
            if (isClosed(set)) {
                all.add(set);
            }
        }
        return all;
    }

    int closedSet(int i) {
        List<Integer> all = allClosed();
        return i == -1 ? all.size() : within(0, i, all.size() - 1) ? all.get(i) : -5;
    }

    int hull(int set) {
        if (!isSet(set)) {
            return -2;
        }
        int least = (1 << size) - 1;
        for (int closed : allClosed()) {
            if ((closed & set) == set) {
                least &= closed;
            }
        }
        return least;
    }

    private List<int[]> characters() {
        StringBuilder key = new StringBuilder().append(size).append(':');
        for (int i = 0; i < size; i++) {
            for (int j = 0; j < size; j++) {
                for (int k = 0; k < size; k++) {
                    key.append(n(i, j, k));
                }
            }
        }
        return CHARACTERS.computeIfAbsent(key.toString(), told -> findCharacters());
    }

    private List<int[]> findCharacters() {
        int[][][] often = new int[size][size][size];
        int rows = 1;
        for (int i = 0; i < size; i++) {
            rows *= i == 0 ? 1 : 31;
            for (int j = 0; j < size; j++) {
                for (int k = 0; k < size; k++) {
                    often[i][j][k] = n(i, j, k);
                }
            }
        }
        List<int[]> all = new ArrayList<>();
        int[] row = new int[size];
        for (int code = 0; code < rows; code++) {
            row[0] = 1;
            int rest = code;
            for (int i = size - 1; i > 0; i--) {
                row[i] = rest % 31;
                rest /= 31;
            }
            if (isCharacter(often, row)) {
                all.add(row.clone());
            }
        }
        return all;
    }

    private static boolean isCharacter(int[][][] often, int[] row) {
        for (int i = 0; i < row.length; i++) {
            for (int j = 0; j < row.length; j++) {
                int sum = 0;
                for (int k = 0; k < row.length; k++) {
                    sum += often[i][j][k] * row[k];
                }
                if ((sum - row[i] * row[j]) % 31 != 0) {
                    return false;
                }
            }
        }
        return true;
    }

    int character(int i, int k) {
        if (i == -1) {
            return characters().size();
        }
        if (i < -1) {
            return -5;
        }
        if (!sort(k)) {
            return -1;
        }
        return i < characters().size() ? characters().get(i)[k] : -5;
    }

    int squares(int i) {
        if (!within(0, i, characters().size() - 1)) {
            return -5;
        }
        return Arrays.stream(characters().get(i)).map(v -> v * v).sum() % 31;
    }

    private static int mod(long v) {
        return (int) Math.floorMod(v, 31L);
    }

    private static int invert(int v) {
        return java.math.BigInteger.valueOf(v).modInverse(java.math.BigInteger.valueOf(31)).intValue();
    }

    /** By cofactors, so otherwise than the class does it. */
    private static long determinant(int[][] a) {
        if (a.length == 0) {
            return 1;
        }
        long sum = 0;
        for (int c = 0; c < a.length; c++) {
            sum += (c % 2 == 0 ? 1 : -1) * a[0][c] * determinant(without(a, 0, c));
        }
        return mod(sum);
    }

    private static int[][] without(int[][] a, int row, int column) {
        int[][] b = new int[a.length - 1][a.length - 1];
        for (int i = 0; i < b.length; i++) {
            for (int j = 0; j < b.length; j++) {
                b[i][j] = a[i < row ? i : i + 1][j < column ? j : j + 1];
            }
        }
        return b;
    }

    private static int[][] inverse(int[][] a) {
        int d = mod(determinant(a));
        if (d == 0) {
            return null;
        }
        int[][] b = new int[a.length][a.length];
        for (int i = 0; i < a.length; i++) {
            for (int j = 0; j < a.length; j++) {
                b[i][j] = mod(((i + j) % 2 == 0 ? 1 : -1) * determinant(without(a, j, i)) * invert(d));
            }
        }
        return b;
    }

    int back(int i, int j, int k) {
        if (!sort(i, j, k)) {
            return -1;
        }
        List<int[]> all = characters();
        if (all.size() != size) {
            return -3;
        }
        int[][] u = new int[size][size];
        for (int a = 0; a < size; a++) {
            for (int m = 0; m < size; m++) {
                u[a][m] = all.get(m)[a];
            }
        }
        int[][] v = inverse(u);
        if (v == null) {
            return -3;
        }
        long sum = 0;
        for (int m = 0; m < size; m++) {
            sum += u[i][m] * u[j][m] * v[m][k];
        }
        return mod(sum);
    }

    int table(int i, int m, int v) {
        if (!within(0, i, 4) || !within(0, m, 4)) {
            return -1;
        }
        if (!within(0, v, 30)) {
            return -2;
        }
        int was = s[i][m];
        s[i][m] = v;
        return was;
    }

    int twist(int i, int v) {
        if (!within(0, i, 4)) {
            return -1;
        }
        if (!within(0, v, 30)) {
            return -2;
        }
        int was = twist[i];
        twist[i] = v;
        return was;
    }

    int fill() {
        List<int[]> all = characters();
        if (all.size() != size) {
            return -3;
        }
        for (int i = 0; i < size; i++) {
            for (int m = 0; m < size; m++) {
                s[i][m] = all.get(m)[i];
            }
        }
        return size;
    }

    private int[][] part() {
        int[][] part = new int[size][];
        for (int i = 0; i < size; i++) {
            part[i] = Arrays.copyOf(s[i], size);
        }
        return part;
    }

    int given(int i, int j, int k) {
        if (!sort(i, j, k)) {
            return -1;
        }
        int[][] a = part();
        int[][] w = inverse(a);
        if (w == null) {
            return -3;
        }
        long sum = 0;
        for (int m = 0; m < size; m++) {
            if (a[0][m] == 0) {
                return -3;
            }
            sum += (long) a[i][m] * a[j][m] * w[m][k] * invert(a[0][m]);
        }
        return mod(sum);
    }

    private int[][] times(int[][] a, int[][] b) {
        int[][] c = new int[size][size];
        for (int i = 0; i < size; i++) {
            for (int k = 0; k < size; k++) {
                for (int m = 0; m < size; m++) {
                    c[i][k] = mod(c[i][k] + a[i][m] * b[m][k]);
                }
            }
        }
        return c;
    }

    private int[][] scaled(int[][] a, int by) {
        int[][] c = new int[size][size];
        for (int i = 0; i < size; i++) {
            for (int k = 0; k < size; k++) {
                c[i][k] = mod(a[i][k] * by);
            }
        }
        return c;
    }

    int law(int which) {
        if (which != 0 && which != 1) {
            return -1;
        }
        int[][] square = times(part(), part());
        int[][] st = part();
        for (int i = 0; i < size; i++) {
            for (int m = 0; m < size; m++) {
                st[i][m] = mod(st[i][m] * twist[m]);
            }
        }
        int[][] cube = times(times(st, st), st);
        for (int by = 1; by < 31; by++) {
            if (which == 0 && isShuffle(scaled(square, by))) {
                return 1;
            }
            boolean zero = Arrays.stream(square).allMatch(row -> Arrays.stream(row).allMatch(v -> v == 0));
            if (which == 1 && !zero && Arrays.deepEquals(cube, scaled(square, by))) {
                return 1;
            }
        }
        return 0;
    }

    private boolean isShuffle(int[][] a) {
        TreeSet<Integer> columns = new TreeSet<>();
        for (int[] row : a) {
            int ones = 0;
            for (int m = 0; m < size; m++) {
                if (row[m] > 1) {
                    return false;
                }
                if (row[m] == 1) {
                    ones++;
                    columns.add(m);
                }
            }
            if (ones != 1) {
                return false;
            }
        }
        return columns.size() == size;
    }

    int small(int b, int i) {
        if (!within(0, b, 3)) {
            return -2;
        }
        List<Integer> all = new ArrayList<>();
        Model three = new Model();
        three.size = 3;
        for (int code = 0; code < 10000; code++) {
            int p = code / 1000, q = code / 100 % 10, r = code / 10 % 10, last = code % 10;
            if (Math.max(Math.max(p, q), Math.max(r, last)) <= b) {
                three.table[1][1] = new int[] {1, p, q, 0, 0};
                three.table[1][2] = new int[] {0, q, r, 0, 0};
                three.table[2][1] = new int[] {0, q, r, 0, 0};
                three.table[2][2] = new int[] {1, r, last, 0, 0};
                if (three.clash(0) == -5) {
                    all.add(code);
                }
            }
        }
        return i == -1 ? all.size() : within(0, i, all.size() - 1) ? all.get(i) : -5;
    }

    int were(int i, int j, int k) {
        if (!within(1, i, 4) || !within(1, j, 4) || !within(0, k, 4)) {
            return -1;
        }
        int one = table[i][j][k];
        int other = table[j][i][k];
        int bits = 0;
        for (int v = 0; v <= 9; v++) {
            table[i][j][k] = v;
            table[j][i][k] = v;
            bits += clash(0) == -5 ? 1 << v : 0;
        }
        table[i][j][k] = one;
        table[j][i][k] = other;
        return bits;
    }

    long odds(int k, int m, int seed, int q, int part) {
        if (!sort(k) || !within(1, m, 12) || !within(1, q, 30) || !within(0, part, 1)) {
            return NO;
        }
        int hits = 0;
        for (int more = 0; more < q; more++) {
            int z = seed + more;
            long[] row = null;
            for (int draw = 0; draw < m; draw++) {
                z = z * 1103515245 + 12345;
                int drawn = (z >>> 16) % size;
                row = row == null ? unit(drawn) : join(row, unit(drawn));
            }
            hits += row[k] > 0 ? 1 : 0;
        }
        int below = 1;
        while (hits * below % q != 0) {
            below++;
        }
        return part == 0 ? hits * below / q : below;
    }

    int plan(int what, int v) {
        if (what == -1) {
            plan.clear();
            return 0;
        }
        if (!within(0, what, 2)) {
            return -1;
        }
        if (!within(0, v, what == 2 ? 9 : 4)) {
            return -2;
        }
        if (plan.size() == 8) {
            return -4;
        }
        plan.add(new int[] {what, v});
        return plan.size();
    }

    int ends(int element, int sort) {
        if (!within(0, element, 3) || !sort(sort)) {
            return -1;
        }
        long[] row = longs(element);
        for (int[] told : plan) {
            if (told[0] == 2) {
                row = Arrays.stream(row).map(v -> v * told[1]).toArray();
            } else if (sort(told[1])) {
                if (told[0] == 0) {
                    row = join(row, unit(told[1]));
                } else {
                    row[told[1]]++;
                }
            }
            row = Arrays.stream(row).map(v -> Math.min(v, 999)).toArray();
        }
        return (int) row[sort];
    }

    int write(int element) {
        if (!within(0, element, 3)) {
            return -1;
        }
        List<String> terms = new ArrayList<>();
        for (int i = 0; i < size; i++) {
            int v = elements[element][i];
            if (v > 0) {
                terms.add((v == 1 ? "" : "" + v) + "abcde".charAt(i));
            }
        }
        paper = terms.isEmpty() ? "0" : String.join("+", terms);
        return paper.length();
    }

    int paper(int i) {
        return within(0, i, paper.length() - 1) ? paper.charAt(i) : -1;
    }

    int judge(int list, int i, int j) {
        if (!within(0, list, 3) || !sort(i, j)) {
            return -1;
        }
        if (lists[list] == null) {
            return -11;
        }
        for (int k = 0; k < lists[list].length; k++) {
            if (lists[list][k] != (k < size ? n(i, j, k) : 0)) {
                return k;
            }
        }
        return -5;
    }

    int list(int list, int n) {
        if (!within(0, list, 3)) {
            return -1;
        }
        if (n > 12) {
            return -2;
        }
        if (n < 0) {
            return -14;
        }
        lists[list] = new long[n];
        return 1;
    }

    int put(int list, int i, long v) {
        if (!within(0, list, 3)) {
            return -1;
        }
        if (lists[list] == null) {
            return -11;
        }
        if (!within(0, i, lists[list].length - 1)) {
            return -13;
        }
        lists[list][i] = v;
        return 1;
    }

    long get(int list, int i) {
        boolean there = within(0, list, 3) && lists[list] != null && within(0, i, lists[list].length - 1);
        return there ? lists[list][i] : NO;
    }

    private static int[][] copy(int[][] a) {
        return Arrays.stream(a).map(int[]::clone).toArray(int[][]::new);
    }

    private void like(Model other) {
        kind = other.kind;
        size = other.size;
        figure = other.figure;
        table = Arrays.stream(other.table).map(Model::copy).toArray(int[][][]::new);
        elements = copy(other.elements);
        s = copy(other.s);
        twist = other.twist.clone();
        plan = new ArrayList<>(other.plan);
    }

    int image() {
        image = new Model();
        image.like(this);
        return size;
    }

    int undo() {
        if (image == null) {
            return -3;
        }
        like(image);
        return size;
    }

    int count(int what) {
        switch (what) {
            case 0:
                return (int) Arrays.stream(table).flatMap(Arrays::stream).flatMapToInt(Arrays::stream).filter(v -> v != 0).count();
            case 1:
                return (int) Arrays.stream(elements).flatMapToInt(Arrays::stream).filter(v -> v != 0).count();
            case 2:
                return tape.length();
            case 3:
                return paper.length();
            case 4:
                return plan.size();
            default:
                return -2;
        }
    }
}
