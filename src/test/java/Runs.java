/** What tests do again and again: objects of a KIND, texts on THE TAPE, rows of numbers. */
abstract class Runs {
    static final Check CHECK = new Check();
    static final int NONE = -1, BAD = -2, STATE = -3, FULL = -4, NOT = -5;
    static final int NOTHING = -11, BEYOND = -13, BELOW = -14;
    static final long NO = Long.MIN_VALUE;
    /** Integers that are no number of anything. */
    static final int[] ODD = {Integer.MIN_VALUE, Integer.MIN_VALUE + 1, -1000, -101, Integer.MAX_VALUE - 1, Integer.MAX_VALUE};

    static void due(String call, long got, long want) {
        CHECK.same(call, got, want);
    }

    static void text(String call, String got, String want) {
        CHECK.holds(call + " gave " + got + ", due is " + want, got.equals(want));
    }

    static FusionRules made(int kind, int size, int figure) {
        FusionRules x = new FusionRules();
        x.set(0, kind);
        x.set(1, size);
        x.set(2, figure);
        return x;
    }

    static FusionRules told(int size, String rules) {
        FusionRules x = made(0, size, 0);
        due("rules " + rules, rules(x, rules), rules.split(";").length);
        return x;
    }

    static void feed(FusionRules x, String text) {
        for (int i = 0; i < text.length(); i++) {
            x.feed(text.charAt(i));
        }
    }

    static int rules(FusionRules x, String text) {
        feed(x, text);
        return x.rules();
    }

    static int element(FusionRules x, int element, String text) {
        feed(x, text);
        return x.element(element);
    }

    static String written(FusionRules x, int element) {
        int length = x.write(element);
        StringBuilder text = new StringBuilder();
        for (int i = 0; i < length; i++) {
            text.append((char) x.paper(i));
        }
        due("paper behind the last byte", x.paper(length), NONE);
        return text.toString();
    }

    static String row(FusionRules x, int element) {
        StringBuilder text = new StringBuilder();
        for (int sort = 0; sort < x.of(1); sort++) {
            text.append(sort == 0 ? "" : " ").append(x.has(element, sort));
        }
        return text.toString();
    }

    /** How OFTEN each SORT is in what i and j give. */
    static String gives(FusionRules x, int i, int j) {
        StringBuilder text = new StringBuilder();
        for (int k = 0; k < x.of(1); k++) {
            text.append(k == 0 ? "" : " ").append(x.often(i, j, k));
        }
        return text.toString();
    }
}
