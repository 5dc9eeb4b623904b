import java.util.Random;

/** Runs of drawn calls, each answer against that of the Model. */
public final class ModelTest {
    private static final int RUNS = 600;
    private static final int CALLS = 512;
    private static final Check CHECK = new Check();

    private final Random random;
    private final FusionRules x = new FusionRules();
    private final Model model = new Model();
    private int calls = 0;

    private ModelTest(int seed) {
        random = new Random(seed);
    }

    private void same(String call, long got, long due) {
        CHECK.same(call, got, due);
        calls++;
    }

    /** Mostly within the bounds, now and then just or far outside. */
    private int near(int low, int high) {
        int dice = random.nextInt(60);
        if (dice == 0) {
            return low - 1;
        }
        if (dice == 1) {
            return high + 1;
        }
        if (dice == 2) {
            return random.nextInt();
        }
        return low + random.nextInt(high - low + 1);
    }

    private int sort() {
        return near(0, model.of(1) - 1);
    }

    private String letter(int from) {
        int size = model.of(1);
        int sort = random.nextInt(40) == 0 ? random.nextInt(6) : from + random.nextInt(Math.max(1, size - from));
        return "" + (char) ('a' + sort);
    }

    private String sum(boolean element) {
        if (random.nextInt(8) == 0) {
            return "0";
        }
        StringBuilder text = new StringBuilder();
        int terms = 1 + random.nextInt(3);
        for (int i = 0; i < terms; i++) {
            text.append(i == 0 ? "" : "+");
            int figures = random.nextInt(element ? 4 : 2);
            for (int f = 0; f < figures; f++) {
                text.append(f == 0 ? (element ? 1 : 2) + random.nextInt(element ? 9 : 8) : random.nextInt(10));
            }
            text.append(letter(0));
        }
        return text.toString();
    }

    private String spoilt(String text) {
        if (random.nextInt(4) != 0 || text.isEmpty()) {
            return text;
        }
        int at = random.nextInt(text.length());
        String signs = "abcdef0123456789+*=; x";
        char sign = signs.charAt(random.nextInt(signs.length()));
        switch (random.nextInt(3)) {
            case 0:
                return text.substring(0, at);
            case 1:
                return text.substring(0, at) + sign + text.substring(at);
            default:
                return text.substring(0, at) + sign + text.substring(at + 1);
        }
    }

    private void feed(String text) {
        for (int i = 0; i < text.length() && calls < CALLS; i++) {
            same("feed", x.feed(text.charAt(i)), model.feed(text.charAt(i)));
        }
    }

    private void feedRules() {
        StringBuilder text = new StringBuilder();
        int clauses = 1 + random.nextInt(4);
        for (int i = 0; i < clauses; i++) {
            text.append(i == 0 ? "" : ";").append(letter(1)).append("*").append(letter(1)).append("=").append(sum(false));
        }
        feed(spoilt(text.toString()));
        same("rules", x.rules(), model.rules());
    }

    private void change() {
        int a = near(0, 3);
        int b = sort();
        int v;
        switch (random.nextInt(15)) {
            case 0:
                v = near(0, 4);
                same("set kind", x.set(0, v), model.set(0, v));
                break;
            case 1:
                v = near(1, 5);
                same("set size", x.set(1, v), model.set(1, v));
                break;
            case 2:
                v = near(0, 9);
                same("set what", x.set(a, v), model.set(a, v));
                break;
            case 3:
                tellOne();
                break;
            case 4:
                feedRules();
                break;
            case 5:
                feed(spoilt(sum(true)));
                same("element", x.element(a), model.element(a));
                break;
            case 6:
                v = random.nextInt(3) == 0 ? near(0, 999) : near(0, 9);
                same("give", x.give(a, b, v), model.give(a, b, v));
                break;
            case 7:
                v = near(0, 3);
                same("together", x.together(a, v), model.together(a, v));
                break;
            case 8:
                tellTables();
                break;
            case 9:
                same("fill", x.fill(), model.fill());
                break;
            case 10:
                v = near(0, 9);
                int what = random.nextInt(20) == 0 ? -1 : near(0, 2);
                v = what == 2 ? v : v / 2;
                same("plan", x.plan(what, v), model.plan(what, v));
                break;
            case 11:
                same("write", x.write(a), model.write(a));
                break;
            case 12:
                changeLists();
                break;
            case 13:
                same("image", x.image(), model.image());
                break;
            default:
                same("undo", x.undo(), model.undo());
                break;
        }
    }

    private void tellOne() {
        int i = near(1, 4);
        int j = near(1, 4);
        int k = near(0, 4);
        int v = random.nextInt(3) == 0 ? near(0, 9) : random.nextInt(2);
        same("tell", x.tell(i, j, k, v), model.tell(i, j, k, v));
    }

    private void tellTables() {
        int i = near(0, 4);
        int m = near(0, 4);
        int v = random.nextInt(3) == 0 ? near(0, 30) : random.nextInt(2);
        same("table", x.table(i, m, v), model.table(i, m, v));
        int t = random.nextInt(2) == 0 ? near(0, 30) : 1;
        same("twist", x.twist(i, t), model.twist(i, t));
    }

    private void changeLists() {
        int list = near(0, 3);
        int n = near(0, 12);
        int i = near(0, 6);
        long v = random.nextInt(5) == 0 ? random.nextLong() : random.nextInt(2);
        if (random.nextInt(4) == 0) {
            same("list", x.list(list, n), model.list(list, n));
        }
        same("put", x.put(list, i, v), model.put(list, i, v));
    }

    private void ask() {
        int i = sort();
        int j = sort();
        int k = sort();
        int v;
        switch (random.nextInt(24)) {
            case 0:
                v = near(0, 2);
                same("of", x.of(v), model.of(v));
                break;
            case 1:
            case 2:
                same("often", x.often(i, j, k), model.often(i, j, k));
                break;
            case 3:
                v = near(0, 1);
                same("clash", x.clash(v), model.clash(v));
                break;
            case 4:
                same("partner", x.partner(i), model.partner(i));
                break;
            case 5:
                v = near(0, 8);
                same("power", x.power(i, v, k), model.power(i, v, k));
                break;
            case 6:
                v = near(0, 3);
                same("has", x.has(v, k), model.has(v, k));
                break;
            case 7:
                v = near(0, (1 << model.of(1)) - 1);
                same("closed", x.closed(v), model.closed(v));
                same("hull", x.hull(v), model.hull(v));
                break;
            case 8:
                v = near(-1, 8);
                same("closedSet", x.closedSet(v), model.closedSet(v));
                break;
            case 9:
            case 10:
                v = near(-1, model.of(1));
                same("character", x.character(v, k), model.character(v, k));
                same("squares", x.squares(v), model.squares(v));
                break;
            case 11:
                same("back", x.back(i, j, k), model.back(i, j, k));
                break;
            case 12:
            case 13:
                same("given", x.given(i, j, k), model.given(i, j, k));
                break;
            case 14:
                v = near(0, 1);
                same("law", x.law(v), model.law(v));
                break;
            default:
                askMore(i, j, k);
                break;
        }
    }

    private void askMore(int i, int j, int k) {
        int v;
        switch (random.nextInt(8)) {
            case 0:
                v = near(-1, 20);
                int b = random.nextInt(10) == 0 ? near(0, 3) : near(0, 2);
                same("small", x.small(b, v), model.small(b, v));
                break;
            case 1:
                v = near(1, 4);
                int w = near(1, 4);
                same("were", x.were(v, w, k), model.were(v, w, k));
                break;
            case 2:
                int m = near(1, 12);
                int seed = random.nextInt();
                int q = near(1, 30);
                int part = near(0, 1);
                same("odds", x.odds(k, m, seed, q, part), model.odds(k, m, seed, q, part));
                break;
            case 3:
                v = near(0, 3);
                same("ends", x.ends(v, k), model.ends(v, k));
                break;
            case 4:
                v = near(0, 12);
                same("paper", x.paper(v), model.paper(v));
                break;
            case 5:
                v = near(0, 3);
                same("judge", x.judge(v, i, j), model.judge(v, i, j));
                break;
            case 6:
                v = near(0, 3);
                w = near(0, 12);
                same("get", x.get(v, w), model.get(v, w));
                break;
            default:
                v = near(0, 4);
                same("count", x.count(v), model.count(v));
                break;
        }
    }

    private void run() {
        while (calls < CALLS - 2) {
            if (random.nextInt(3) == 0) {
                change();
            } else {
                ask();
            }
        }
    }

    /** Tables that often keep a law are rare among drawn ones: all of two SORTS with few numbers are tried. */
    private static void lawsOfTwo() {
        int[] numbers = {0, 1, 2, 30};
        for (int code = 0; code < 4096; code++) {
            FusionRules x = new FusionRules();
            Model model = new Model();
            for (int at = 0; at < 6; at++) {
                int v = numbers[code >> 2 * at & 3];
                if (at < 4) {
                    x.table(at / 2, at % 2, v);
                    model.table(at / 2, at % 2, v);
                } else {
                    x.twist(at - 4, v);
                    model.twist(at - 4, v);
                }
            }
            CHECK.same("law 0 of " + code, x.law(0), model.law(0));
            CHECK.same("law 1 of " + code, x.law(1), model.law(1));
            CHECK.same("given of " + code, x.given(1, 1, 1), model.given(1, 1, 1));
        }
    }

    /** Commuting tables with many CHARACTERS: SORTS that give sums of those below them. */
    private static void manyCharacters() {
        Random random = new Random(5);
        for (int run = 0; run < 150; run++) {
            FusionRules x = new FusionRules();
            Model model = new Model();
            int size = 2 + run % 4;
            x.set(1, size);
            model.set(1, size);
            for (int i = 1; i < size; i++) {
                for (int j = 1; j < size; j++) {
                    int k = run % 3 == 0 ? Math.min(i, j) : run % 3 == 1 ? Math.max(i, j) : random.nextInt(size);
                    int v = run % 7 == 0 ? 1 + random.nextInt(2) : 1;
                    x.tell(i, j, k, v);
                    model.tell(i, j, k, v);
                }
            }
            for (int i = -1; i <= size; i++) {
                for (int k = 0; k < size; k++) {
                    CHECK.same("character", x.character(i, k), model.character(i, k));
                    CHECK.same("back", x.back(k, (i + size) % size, size - 1), model.back(k, (i + size) % size, size - 1));
                }
            }
            CHECK.same("fill", x.fill(), model.fill());
            CHECK.same("given", x.given(size - 1, size - 1, size - 1), model.given(size - 1, size - 1, size - 1));
        }
    }

    /** Tables of three SORTS, dense ones and sparse ones, alike in either order or not. */
    private static void charactersOfThree() {
        Random random = new Random(1);
        for (int run = 0; run < 3000; run++) {
            FusionRules x = new FusionRules();
            Model model = new Model();
            x.set(1, 3);
            model.set(1, 3);
            for (int place = 0; place < 12; place++) {
                int i = 1 + place / 6;
                int j = 1 + place / 3 % 2;
                int v = run % 2 == 0 ? Math.max(0, random.nextInt(5) - 2) : random.nextInt(10);
                x.tell(i, j, place % 3, v);
                model.tell(i, j, place % 3, v);
                if (run % 4 < 3) {
                    x.tell(j, i, place % 3, v);
                    model.tell(j, i, place % 3, v);
                }
            }
            for (int i = -1; i <= 3; i++) {
                for (int k = 1; k < 3; k++) {
                    CHECK.same("character", x.character(i, k), model.character(i, k));
                }
            }
        }
    }

    public static void main(String[] args) {
        lawsOfTwo();
        manyCharacters();
        charactersOfThree();
        for (int seed = 0; seed < RUNS; seed++) {
            new ModelTest(seed).run();
        }
        CHECK.end("ModelTest");
    }
}
