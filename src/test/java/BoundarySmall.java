/** The boundary cases of promises 26 to 28: small lists, numbers that were, odds. */
final class BoundarySmall extends Runs {
    private static final int ALL_BITS = 1023;

    private BoundarySmall() {
    }

    // ---- 26: small

    @Sentence(promise = 26, says = "SMALL LISTS for a bound b (0 .. 3)")
    static void smallBounds() {
        int[] many = {0, 6, 0, 20};
        FusionRules x = new FusionRules();
        due("b 0: none", x.small(0, -1), many[0]);
        due("b 0: none", x.small(0, 0), NOT);
        due("b 1", x.small(1, -1), many[1]);
        due("b 3", x.small(3, -1), many[3]);
        int[] rows = {10, 11, 100, 111, 1100, 1110};
        for (int i = 0; i < rows.length; i++) {
            due("b 1, " + i, x.small(1, i), rows[i]);
        }
        due("the last one of b 3 has a 3", x.small(3, 19), lastByHand(3));
        due("the last one of b 2", x.small(2, x.small(2, -1) - 1), lastByHand(2));
    }

    /** The last p, q, r, s: by hand there is one law alone, as x and y are alike in either order. */
    private static int lastByHand(int b) {
        int last = -1;
        for (int row = 0; row < 10000; row++) {
            int p = row / 1000, q = row / 100 % 10, r = row / 10 % 10, s = row % 10;
            if (p <= b && q <= b && r <= b && s <= b && 1 + p * r + q * s == q * q + r * r) {
                last = row;
            }
        }
        return last;
    }

    @Sentence(promise = 26, says = "BAD: b; NOT: there are not so many (i below -1, too).")
    static void smallBad() {
        FusionRules x = new FusionRules();
        int[] many = {0, 6, x.small(2, -1), 20};
        for (int b = 0; b <= 3; b++) {
            due("one beyond", x.small(b, many[b]), NOT);
            due("-2", x.small(b, -2), NOT);
            for (int odd : ODD) {
                due("i " + odd, x.small(b, odd), NOT);
                due("b " + odd, x.small(odd, b), BAD);
            }
        }
        due("b 4", x.small(4, -1), BAD);
        due("b -1", x.small(-1, -1), BAD);
        due("BAD ahead of NOT", x.small(4, -2), BAD);
        due("BAD ahead of NOT", x.small(-1, 1000), BAD);
    }

    @Sentence(promise = 26, says = "rules of three SORTS, ONE, x and y")
    static void smallByAnyRules() {
        FusionRules[] all = {made(0, 1, 0), made(4, 5, 9), made(2, 4, 0), told(3, "b*b=c;b*c=9c")};
        for (FusionRules x : all) {
            int clash = x.clash(0);
            due("how many", x.small(1, -1), 6);
            due("the first one", x.small(3, 0), 10);
            due("the RULES stay", x.clash(0), clash);
        }
        FusionRules y = made(0, 5, 0);
        for (int place = 0; place < 80; place++) {
            y.tell(1 + place / 20, 1 + place / 5 % 4, place % 5, 9);
        }
        int[] rows = {10, 11, 100, 111, 1100, 1110};
        for (int i = 0; i < rows.length; i++) {
            due("none without CLASH", y.were(1, 1, 1), 0);
            due("nothing of RULES that were looked at", y.small(1, i), rows[i]);
            due("nothing of SMALL LISTS", y.were(2, 1, 0), 0);
        }
    }

    @Sentence(promise = 26, says = "all those without CLASH, in order as rows p, q, r, s.")
    static void smallAreAll() {
        FusionRules x = new FusionRules();
        int found = 0;
        for (int row = 0; row < 81; row++) {
            int p = row / 27, q = row / 9 % 3, r = row / 3 % 3, s = row % 3;
            FusionRules told = toldSmall(p, q, r, s);
            due("x is its own PARTNER", told.partner(1), 1);
            due("y is its own PARTNER", told.partner(2), 2);
            due("alike in either order", told.clash(1), NOT);
            if (told.clash(0) == NOT) {
                due("row " + found, x.small(2, found), 1000 * p + 100 * q + 10 * r + s);
                found++;
            }
        }
        due("no more", x.small(2, found), NOT);
        due("how many", x.small(2, -1), found);
    }

    private static FusionRules toldSmall(int p, int q, int r, int s) {
        FusionRules x = made(0, 3, 0);
        x.tell(1, 1, 0, 1);
        x.tell(2, 2, 0, 1);
        x.tell(1, 1, 1, p);
        x.tell(1, 1, 2, q);
        x.tell(1, 2, 1, q);
        x.tell(2, 1, 1, q);
        x.tell(1, 2, 2, r);
        x.tell(2, 1, 2, r);
        x.tell(2, 2, 1, r);
        x.tell(2, 2, 2, s);
        return x;
    }

    @Sentence(promise = 26, says = "SMALL LISTS: i -1 how many, else 1000 times p, 100 times q, 10 times r, and s of the i-th.")
    static void smallAsNumber() {
        FusionRules x = new FusionRules();
        int many = x.small(3, -1);
        int before = -1;
        for (int i = 0; i < many; i++) {
            int row = x.small(3, i);
            int p = row / 1000, q = row / 100 % 10, r = row / 10 % 10, s = row % 10;
            due("figures 0 .. 3", Math.max(Math.max(p, q), Math.max(r, s)) <= 3 ? 1 : 0, 1);
            due("the law of " + row, 1 + p * r + q * s, q * q + r * r);
            due("rising", row > before ? 1 : 0, 1);
            before = row;
        }
        due("of b 3", many, 20);
    }

    // ---- 27: were

    @Sentence(promise = 27, says = "WERE (bits). NONE: i, j (1 .. 4), k (0 .. 4).")
    static void wereNone() {
        for (int kind = 0; kind <= 4; kind++) {
            FusionRules x = made(kind, 2, 0);
            int[][] none = {{0, 1, 0}, {5, 1, 0}, {-1, 1, 0}, {1, 0, 0}, {1, 5, 0}, {1, -1, 0}, {1, 1, -1}, {1, 1, 5}};
            for (int[] at : none) {
                due("NONE", x.were(at[0], at[1], at[2]), NONE);
            }
            for (int odd : ODD) {
                due("i " + odd, x.were(odd, 1, 0), NONE);
                due("j " + odd, x.were(1, odd, 0), NONE);
                due("k " + odd, x.were(1, 1, odd), NONE);
            }
            due("the first ones", x.were(1, 1, 0), ALL_BITS);
            due("the last ones", x.were(4, 4, 4), ALL_BITS);
        }
    }

    @Sentence(promise = 27, says = "WERE: numbers (bits 0 .. 9) by which")
    static void wereEdges() {
        FusionRules x = told(3, "b*b=a;b*c=c;c*c=a+b+9c");
        due("0 alone", x.were(1, 1, 1), 1);
        FusionRules y = told(3, "b*b=a+2b+3c;b*c=3b+c;c*c=a+b");
        due("9 alone", y.were(1, 1, 1), 512);
        due("it is another", y.often(1, 1, 1), 2);
        y.tell(1, 1, 1, 9);
        due("9 alone, and it is 9", y.were(1, 1, 1), 512);
        due("no CLASH", y.clash(0), NOT);
        due("SIZE 2: all ten", told(2, "b*b=9a+9b").were(1, 1, 1), ALL_BITS);
        due("0 alone, and it is 0", told(3, "b*b=b;b*c=c").were(2, 2, 0), 1);
        FusionRules z = told(4, "b*b=c");
        z.tell(1, 2, 3, 1);
        due("none of ten", z.were(3, 3, 3), 0);
    }

    @Sentence(promise = 27, says = "were one that of THE TABLE for i, j, k (and j, i, k)")
    static void wereInBothOrders() {
        FusionRules x = told(3, "b*b=a;b*c=c;c*c=a+b");
        x.tell(2, 1, 2, 4);
        due("a CLASH", x.clash(0) >= 0 ? 1 : 0, 1);
        due("both become 1", x.were(1, 2, 2), 2);
        due("both become 1", x.were(2, 1, 2), 2);
        due("THE TABLE stays", x.often(2, 1, 2), 4);
        due("THE TABLE stays", x.often(1, 2, 2), 1);
        due("the CLASH stays", x.clash(0) >= 0 ? 1 : 0, 1);
    }

    @Sentence(promise = 27, says = "WERE by a KIND other than TOLD, or by i, j, k beyond SIZE: all ten bits, if there is no CLASH, else 0.")
    static void wereByOthers() {
        FusionRules x = told(3, "b*b=a;b*c=c;c*c=a+b");
        int[][] beyond = {{3, 1, 0}, {1, 3, 0}, {1, 1, 3}, {4, 4, 4}, {2, 2, 4}};
        for (int[] at : beyond) {
            due("beyond SIZE", x.were(at[0], at[1], at[2]), ALL_BITS);
        }
        due("within SIZE", x.were(2, 2, 0), 2);
        x.tell(2, 2, 0, 2);
        for (int[] at : beyond) {
            due("beyond SIZE, a CLASH", x.were(at[0], at[1], at[2]), 0);
        }
        due("within SIZE, a CLASH", x.were(2, 2, 0), 2);
        for (int kind = 1; kind <= 4; kind++) {
            x.set(0, kind);
            due("another KIND", x.were(2, 2, 0), ALL_BITS);
            due("another KIND, beyond SIZE", x.were(4, 4, 4), ALL_BITS);
        }
        x.set(0, 0);
        x.set(1, 1);
        due("SIZE 1", x.were(1, 1, 0), ALL_BITS);
        x.set(1, 2);
        due("SIZE 2", x.were(1, 2, 0), ALL_BITS);
    }

    @Sentence(promise = 27, says = "there would be no CLASH (by the RULES as they are; KIND may be any)")
    static void wereByRulesAsTheyAre() {
        FusionRules x = made(0, 3, 0);
        for (int v = 0; v <= 9; v++) {
            x.tell(1, 1, 0, 1);
            x.tell(2, 2, 0, v);
            x.tell(1, 2, 2, 1);
            x.tell(2, 1, 2, 1);
            x.tell(2, 2, 1, 1);
            int bits = x.were(2, 2, 0);
            for (int one = 0; one <= 9; one++) {
                x.tell(2, 2, 0, one);
                due("by " + one, bits >> one & 1, x.clash(0) == NOT ? 1 : 0);
            }
        }
        for (int kind = 1; kind <= 4; kind++) {
            FusionRules y = made(kind, 5, 9);
            due("KIND " + kind, y.were(1, 1, 1), y.clash(0) == NOT ? ALL_BITS : 0);
        }
    }

    // ---- 28: odds

    private static int[] draws(int seed, int m, int n) {
        int[] sorts = new int[m];
        int z = seed;
        for (int i = 0; i < m; i++) {
            z = z * 1103515245 + 12345;
            sorts[i] = (z >>> 16) % n;
        }
        return sorts;
    }

    /** By CYCLE, so that each SEED gives just one SORT. */
    private static void cycle(int size, int m, int seed, int q) {
        FusionRules x = made(1, size, 0);
        for (int k = 0; k < size; k++) {
            int hits = 0;
            for (int more = 0; more < q; more++) {
                int sum = 0;
                for (int sort : draws(seed + more, m, size)) {
                    sum += sort;
                }
                hits += sum % size == k ? 1 : 0;
            }
            int shared = java.math.BigInteger.valueOf(hits).gcd(java.math.BigInteger.valueOf(q)).intValue();
            due("above the line", x.odds(k, m, seed, q, 0), hits / shared);
            due("below the line", x.odds(k, m, seed, q, 1), q / shared);
        }
    }

    @Sentence(promise = 28, says = "DRAWN by a SEED: m SORTS (1 .. 12)")
    static void drawsOfOneAndTwelve() {
        for (int size = 1; size <= 5; size++) {
            cycle(size, 1, 7, 30);
            cycle(size, 12, 7, 30);
        }
        FusionRules x = made(1, 5, 0);
        due("m 0", x.odds(0, 0, 7, 30, 0), NO);
        due("m 13", x.odds(0, 13, 7, 30, 0), NO);
        due("m -1", x.odds(0, -1, 7, 30, 0), NO);
    }

    @Sentence(promise = 28, says = "for each z becomes z * 1103515245 + 12345 (an int; SEED at first); the SORT is (z >>> 16) % n.")
    static void drawsOfInts() {
        FusionRules x = made(0, 5, 0);
        int below = 0;
        for (int seed = 0; seed < 40; seed++) {
            int z = seed * 1103515245 + 12345;
            below += z < 0 ? 1 : 0;
            due("seed " + seed, x.odds((z >>> 16) % 5, 1, seed, 1, 0), 1);
            due("seed " + seed, x.odds(((z >>> 16) + 1) % 5, 1, seed, 1, 0), 0);
        }
        due("some were below 0", below > 5 ? 1 : 0, 1);
    }

    @Sentence(promise = 28, says = "ODDS of k: of q SEEDS (1 .. 30), SEED and each 1 more (an int)")
    static void oddsOfSeeds() {
        int[] seeds = {Integer.MAX_VALUE, Integer.MAX_VALUE - 14, Integer.MIN_VALUE, -1, 0, -30};
        for (int seed : seeds) {
            cycle(5, 2, seed, 1);
            cycle(5, 2, seed, 30);
        }
        FusionRules x = made(1, 5, 0);
        due("q 0", x.odds(0, 2, 7, 0, 0), NO);
        due("q 31", x.odds(0, 2, 7, 31, 0), NO);
        due("q -1", x.odds(0, 2, 7, -1, 1), NO);
    }

    @Sentence(promise = 28, says = "Of fractions part 0 is above, 1 below the line, in lowest terms (0: 0 by 1)")
    static void oddsInLowestTerms() {
        FusionRules x = made(1, 1, 0);
        due("30 of 30: 1", x.odds(0, 12, 5, 30, 0), 1);
        due("by 1", x.odds(0, 12, 5, 30, 1), 1);
        due("1 of 1: 1", x.odds(0, 12, 5, 1, 0), 1);
        due("by 1", x.odds(0, 12, 5, 1, 1), 1);
        FusionRules z = made(0, 5, 0);
        int without = 0;
        for (int seed = 0; seed < 100; seed++) {
            int[] sorts = draws(seed, 2, 5);
            if (sorts[0] != 0 && sorts[1] != 0) {
                without++;
                due("nothing is given: 0", z.odds(0, 2, seed, 1, 0), 0);
                due("by 1", z.odds(0, 2, seed, 1, 1), 1);
            }
        }
        due("there were such", without > 10 ? 1 : 0, 1);
        // of twelve DRAWN two or more are not ONE, by each of these SEEDS, so that nothing is given
        for (int seed = 0; seed < 30; seed++) {
            int others = 0;
            for (int sort : draws(seed, 12, 5)) {
                others += sort != 0 ? 1 : 0;
            }
            due("two or more", others > 1 ? 1 : 0, 1);
        }
        for (int q = 1; q <= 30; q++) {
            due("0 of " + q + ": 0", z.odds(4, 12, 0, q, 0), 0);
            due("by 1", z.odds(4, 12, 0, q, 1), 1);
        }
        cycle(2, 1, 100, 30);
        cycle(2, 3, 100, 28);
        cycle(3, 5, -77, 27);
    }

    @Sentence(promise = 28, says = "those by which k is in it (once or more).")
    static void oddsOnceOrMore() {
        FusionRules x = told(2, "b*b=9a+9b");
        for (int seed = 0; seed < 20; seed++) {
            int[] sorts = draws(seed, 12, 2);
            int others = 0;
            for (int sort : sorts) {
                others += sort;
            }
            due("however often", x.odds(1, 12, seed, 1, 0), others > 0 ? 1 : 0);
            due("ONE behind two of b", x.odds(0, 12, seed, 1, 0), others != 1 ? 1 : 0);
        }
    }

    @Sentence(promise = 28, says = "They are put together, one behind the other as they are DRAWN")
    static void oddsInOrder() {
        FusionRules x = made(0, 3, 0);
        x.tell(1, 2, 0, 1);
        int both = 0;
        for (int seed = 0; seed < 60; seed++) {
            int[] sorts = draws(seed, 2, 3);
            boolean one = sorts[0] == 1 && sorts[1] == 2 || sorts[0] == 0 && sorts[1] == 0;
            boolean other = sorts[0] == 2 && sorts[1] == 1;
            both |= other ? 2 : one && sorts[0] == 1 ? 1 : 0;
            due("seed " + seed, x.odds(0, 2, seed, 1, 0), one ? 1 : 0);
        }
        due("both orders were DRAWN", both, 3);
    }

    @Sentence(promise = 28, says = "ODDS of k. NO: SORT, m, q, part.")
    static void oddsNo() {
        for (int size = 1; size <= 5; size++) {
            FusionRules x = made(1, size, 0);
            due("SORT one beyond", x.odds(size, 1, 0, 1, 0), NO);
            due("SORT -1", x.odds(-1, 1, 0, 1, 0), NO);
            due("part 2", x.odds(0, 1, 0, 1, 2), NO);
            due("part -1", x.odds(0, 1, 0, 1, -1), NO);
            for (int odd : ODD) {
                due("SORT " + odd, x.odds(odd, 1, 0, 1, 0), NO);
                due("m " + odd, x.odds(0, odd, 0, 1, 0), NO);
                due("q " + odd, x.odds(0, 1, 0, odd, 0), NO);
                due("part " + odd, x.odds(0, 1, 0, 1, odd), NO);
                due("any SEED", x.odds(size - 1, 1, odd, 1, 1), 1);
            }
        }
    }
}
