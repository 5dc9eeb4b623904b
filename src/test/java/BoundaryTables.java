/** The boundary cases of promises 18 to 25: characters, two tables. */
final class BoundaryTables extends Runs {
    private BoundaryTables() {
    }

    private static String character(FusionRules x, int i) {
        StringBuilder text = new StringBuilder();
        for (int k = 0; k < x.of(1); k++) {
            text.append(k == 0 ? "" : " ").append(x.character(i, k));
        }
        return text.toString();
    }

    private static void characters(FusionRules x, String... rows) {
        due("how many", x.character(-1, 0), rows.length);
        for (int i = 0; i < rows.length; i++) {
            text("character " + i, character(x, i), rows[i]);
        }
        due("one beyond", x.character(rows.length, 0), NOT);
    }

    /** Rows of S, from the first place on. */
    private static FusionRules tables(int size, int[][] s, int... twists) {
        FusionRules x = made(0, size, 0);
        for (int i = 0; i < s.length; i++) {
            for (int m = 0; m < s[i].length; m++) {
                x.table(i, m, s[i][m]);
            }
        }
        for (int i = 0; i < twists.length; i++) {
            x.twist(i, twists[i]);
        }
        return x;
    }

    // ---- 18: character

    @Sentence(promise = 18, says = "CHARACTERS: rows of numbers 0 .. 30, one for each SORT, 1 for ONE")
    static void numbersOfCharacters() {
        characters(made(0, 1, 0), "1");
        characters(made(1, 2, 0), "1 1", "1 30");
        characters(made(0, 2, 0), "1 0");
        characters(made(0, 5, 0), "1 0 0 0 0");
        characters(told(2, "b*b=9b"), "1 0", "1 9");
        characters(made(1, 5, 0), "1 1 1 1 1", "1 2 4 8 16", "1 4 16 2 8", "1 8 2 16 4", "1 16 8 4 2");
    }

    @Sentence(promise = 18, says = "is the sum of OFTEN times that of k, MODULO 31; in order as rows.")
    static void charactersModulo() {
        characters(told(2, "b*b=2a"), "1 8", "1 23");
        characters(told(2, "b*b=3a"));
        characters(told(2, "b*b=9a+9b"));
        // 12 times 12 is 20, as 5 and 108; 28 times 28 is 9, as 5 and 252
        characters(told(2, "b*b=5a+9b"), "1 12", "1 28");
        characters(told(2, "b*b=8a"), "1 15", "1 16");
        characters(told(3, "b*b=b;c*c=c"), "1 0 0", "1 0 1", "1 1 0");
        characters(told(3, "b*b=2a+b;b*c=2a+2b;c*c=0"), "1 30 0");
        characters(told(3, "b*b=b;b*c=b;c*c=c"), "1 0 0", "1 0 1", "1 1 1");
        characters(told(3, "b*b=b;b*c=c;c*c=0"), "1 0 0", "1 1 0");
    }

    @Sentence(promise = 18, says = "such that for all i, j the product of those of i and j")
    static void charactersOfBothOrders() {
        FusionRules x = told(3, "b*b=b;c*c=c;b*c=b");
        x.tell(2, 1, 1, 0);
        // b times c is b and 0, so b is 0
        characters(x, "1 0 0", "1 0 1");
        x.tell(1, 2, 1, 0);
        x.tell(2, 1, 1, 1);
        characters(x, "1 0 0", "1 0 1");
    }

    @Sentence(promise = 18, says = "i -1 how many (k does not matter), else the number of SORT k in the i-th.")
    static void howManyCharacters() {
        int[] many = {1, 2, 3, 2, 5};
        for (int size = 1; size <= 5; size++) {
            FusionRules x = made(1, size, 0);
            for (int odd : ODD) {
                due("k " + odd, x.character(-1, odd), many[size - 1]);
            }
            due("k -1", x.character(-1, -1), many[size - 1]);
            due("k beyond", x.character(-1, size), many[size - 1]);
        }
        due("none at all", made(4, 2, 3).character(-1, 99), 0);
        due("none at all", made(4, 2, 3).character(0, 0), NOT);
    }

    @Sentence(promise = 18, says = "NONE: k (with i 0 or more); NOT: there are not so many (i below -1, too).")
    static void characterNone() {
        int[] many = {1, 2, 3, 2, 5};
        for (int size = 1; size <= 5; size++) {
            FusionRules x = made(1, size, 0);
            int last = many[size - 1] - 1;
            due("the last number of the first one", x.character(0, size - 1), 1);
            due("k beyond", x.character(0, size), NONE);
            due("k -1", x.character(last, -1), NONE);
            due("NONE ahead of NOT", x.character(last + 1, size), NONE);
            due("NONE ahead of NOT", x.character(Integer.MAX_VALUE, -1), NONE);
            due("one beyond", x.character(last + 1, 0), NOT);
            due("far beyond", x.character(Integer.MAX_VALUE, size - 1), NOT);
            due("-2", x.character(-2, 0), NOT);
            due("-2, and no such k", x.character(-2, size), NOT);
            due("far below, and no such k", x.character(Integer.MIN_VALUE, -1), NOT);
            for (int odd : ODD) {
                due("k " + odd, x.character(0, odd), NONE);
            }
        }
    }

    @Sentence(promise = 18, says = "CHARACTERS: rows of numbers 0 .. 30, one for each SORT")
    static void charactersOfOtherSizes() {
        FusionRules x = told(5, "b*b=9b+9c+9d+9e;c*c=9c+8d+7e;d*d=d;e*e=a");
        int[] sizes = {5, 1, 4, 2, 5, 3, 1, 5};
        for (int size : sizes) {
            for (int kind = 0; kind <= 4; kind++) {
                FusionRules fresh = told(5, "b*b=9b+9c+9d+9e;c*c=9c+8d+7e;d*d=d;e*e=a");
                fresh.set(0, kind);
                fresh.set(1, size);
                x.set(0, kind);
                x.set(1, size);
                int many = fresh.character(-1, 0);
                due("how many by KIND " + kind + ", SIZE " + size, x.character(-1, 0), many);
                for (int i = 0; i < many; i++) {
                    text("as of a new object", character(x, i), character(fresh, i));
                }
            }
        }
    }

    // ---- 19: squares

    @Sentence(promise = 19, says = "SQUARES of one: the sum of its numbers times themselves, MODULO 31.")
    static void squaresModulo() {
        due("SIZE 1", made(2, 1, 0).squares(0), 1);
        due("1 and 0", made(0, 2, 0).squares(0), 1);
        due("1 and 900", made(1, 2, 0).squares(1), 2);
        due("five ones", made(1, 5, 0).squares(0), 5);
        due("1 and 4 and 16 and 64 and 256", made(1, 5, 0).squares(1), 341 % 31);
        due("31 becomes 0: 1 and 25 and 625", told(3, "b*b=c;b*c=a;c*c=b").squares(1), 651 % 31);
        due("1 and 225", told(2, "b*b=8a").squares(0), (1 + 225) % 31);
    }

    @Sentence(promise = 19, says = "SQUARES of the i-th. NOT: there are not so many.")
    static void squaresNot() {
        int[] many = {1, 2, 3, 2, 5};
        for (int size = 1; size <= 5; size++) {
            FusionRules x = made(1, size, 0);
            due("the first one", x.squares(0), size);
            due("the last one", x.squares(many[size - 1] - 1) >= 0 ? 1 : 0, 1);
            due("one beyond", x.squares(many[size - 1]), NOT);
            due("-1", x.squares(-1), NOT);
            for (int odd : ODD) {
                due("squares " + odd, x.squares(odd), NOT);
            }
        }
        due("none at all", made(4, 2, 3).squares(0), NOT);
        due("none at all", made(4, 2, 3).squares(-1), NOT);
    }

    // ---- 20: back

    @Sentence(promise = 20, says = "BACK. NONE: SORTS; STATE: as told.")
    static void backNone() {
        for (int kind = 1; kind <= 2; kind++) {
            for (int size = 1; size <= 5; size++) {
                FusionRules x = made(kind, size, 0);
                due("i beyond", x.back(size, 0, 0), NONE);
                due("j beyond", x.back(0, size, 0), NONE);
                due("k beyond", x.back(0, 0, size), NONE);
                due("i -1", x.back(-1, 0, 0), NONE);
                due("j -1", x.back(0, -1, 0), NONE);
                due("k -1", x.back(0, 0, -1), NONE);
                for (int odd : ODD) {
                    due("i " + odd, x.back(odd, 0, 0), NONE);
                    due("j " + odd, x.back(0, odd, 0), NONE);
                    due("k " + odd, x.back(0, 0, odd), NONE);
                }
                due("the last ones", x.back(size - 1, 0, size - 1), x.character(-1, 0) == size ? 1 : STATE);
            }
        }
        FusionRules y = made(4, 2, 3);
        due("STATE", y.back(1, 1, 1), STATE);
        due("NONE ahead of STATE", y.back(2, 1, 1), NONE);
        due("NONE ahead of STATE", y.back(1, 1, 2), NONE);
    }

    @Sentence(promise = 20, says = "BACK: if there are just as many CHARACTERS as SORTS")
    static void backOfAsMany() {
        due("none of two", made(4, 2, 3).back(0, 0, 0), STATE);
        due("one of two", made(0, 2, 0).back(0, 0, 0), STATE);
        due("two of four", made(1, 4, 0).back(0, 0, 0), STATE);
        due("two of three", told(3, "b*b=b;b*c=c").back(0, 0, 0), STATE);
        due("one of one", made(0, 1, 0).back(0, 0, 0), 1);
        FusionRules x = told(2, "b*b=9b");
        due("two of two", x.back(1, 1, 1), 9);
        due("two of two", x.back(1, 1, 0), 0);
        FusionRules y = told(3, "b*b=b;c*c=c");
        due("three of three", y.back(1, 1, 1), 1);
        due("three of three", y.back(1, 2, 1), 0);
        FusionRules z = told(5, "b*b=9b;c*c=9c;d*d=9d;e*e=9e");
        due("five of five", z.character(-1, 0), 5);
        for (int i = 0; i < 5; i++) {
            due("of 0 .. 9", z.back(4, 4, i), i == 4 ? 9 : 0);
            due("ONE first", z.back(0, i, i), 1);
        }
    }

    @Sentence(promise = 20, says = "BACK of i, j, k: the sum over m of U (i, m) U (j, m) V (m, k), MODULO 31.")
    static void backIsOften() {
        FusionRules[] all = {made(1, 2, 0), made(1, 3, 0), made(1, 5, 0), made(2, 2, 0), made(3, 2, 0), made(3, 3, 0), made(4, 2, 1),
            told(5, "b*b=9b;c*c=8c;d*d=7d;e*e=6e"), told(4, "b*b=b;b*c=b;b*d=b;c*c=c;c*d=c;d*d=d"), told(2, "b*b=5a+9b")};
        for (FusionRules x : all) {
            int size = x.of(1);
            due("as many", x.character(-1, 0), size);
            for (int place = 0; place < size * size * size; place++) {
                int i = place / size / size, j = place / size % size, k = place % size;
                due("back " + i + " " + j + " " + k, x.back(i, j, k), x.often(i, j, k));
            }
        }
    }

    // ---- 21: table

    @Sentence(promise = 21, says = "S (i, m) becomes v: what it was.")
    static void tableEdges() {
        FusionRules x = made(0, 1, 0);
        for (int i = 0; i < 5; i++) {
            for (int m = 0; m < 5; m++) {
                due("at first, beyond SIZE, too", x.table(i, m, 30), 0);
                due("most", x.table(i, m, 0), 30);
                due("least", x.table(i, m, 5 * i + m), 0);
            }
        }
        for (int i = 0; i < 5; i++) {
            for (int m = 0; m < 5; m++) {
                due("each its own", x.table(i, m, 1), 5 * i + m);
            }
        }
    }

    @Sentence(promise = 21, says = "NONE: i, m (0 .. 4 each); BAD.")
    static void tableNone() {
        FusionRules x = made(0, 2, 0);
        int[][] none = {{5, 0}, {-1, 0}, {0, 5}, {0, -1}, {5, 5}};
        for (int[] at : none) {
            due("NONE", x.table(at[0], at[1], 1), NONE);
            due("NONE ahead of BAD", x.table(at[0], at[1], 31), NONE);
            due("NONE ahead of BAD", x.table(at[0], at[1], -1), NONE);
        }
        for (int odd : ODD) {
            due("i " + odd, x.table(odd, 0, 1), NONE);
            due("m " + odd, x.table(0, odd, 1), NONE);
            due("v " + odd, x.table(4, 4, odd), BAD);
        }
        due("31", x.table(4, 4, 31), BAD);
        due("-1", x.table(4, 4, -1), BAD);
        due("it stays", x.table(4, 4, 1), 0);
    }

    // ---- 22: twist

    @Sentence(promise = 22, says = "TWIST (i) becomes v: what it was.")
    static void twistEdges() {
        FusionRules x = made(0, 1, 0);
        for (int i = 0; i < 5; i++) {
            due("at first, beyond SIZE, too", x.twist(i, 30), 0);
            due("most", x.twist(i, 0), 30);
            due("least", x.twist(i, 9 + i), 0);
        }
        for (int i = 0; i < 5; i++) {
            due("each its own", x.twist(i, 0), 9 + i);
        }
    }

    @Sentence(promise = 22, says = "NONE: i (0 .. 4); BAD.")
    static void twistNone() {
        FusionRules x = made(0, 2, 0);
        due("5", x.twist(5, 1), NONE);
        due("-1", x.twist(-1, 1), NONE);
        due("NONE ahead of BAD", x.twist(5, 31), NONE);
        due("NONE ahead of BAD", x.twist(-1, -1), NONE);
        for (int odd : ODD) {
            due("i " + odd, x.twist(odd, 1), NONE);
            due("v " + odd, x.twist(4, odd), BAD);
        }
        due("31", x.twist(4, 31), BAD);
        due("-1", x.twist(4, -1), BAD);
        due("it stays", x.twist(4, 1), 0);
    }

    // ---- 23: fill

    @Sentence(promise = 23, says = "S becomes, for SORTS there are, the numbers of CHARACTERS (S (i, m) that of i in the m-th): how many.")
    static void fillSortsThereAre() {
        for (int size = 1; size <= 5; size++) {
            if (size == 4) {
                continue;
            }
            FusionRules x = made(1, size, 0);
            for (int place = 0; place < 25; place++) {
                x.table(place / 5, place % 5, 29);
            }
            String[] rows = new String[size];
            for (int m = 0; m < size; m++) {
                rows[m] = character(x, m);
            }
            due("how many", x.fill(), size);
            for (int i = 0; i < 5; i++) {
                for (int m = 0; m < 5; m++) {
                    boolean there = i < size && m < size;
                    due("S " + i + " " + m, x.table(i, m, 0), there ? Integer.parseInt(rows[m].split(" ")[i]) : 29);
                }
            }
        }
    }

    @Sentence(promise = 23, says = "STATE: there are not just as many as SORTS.")
    static void fillState() {
        FusionRules[] fewer = {made(4, 2, 3), made(0, 2, 0), made(1, 4, 0), told(3, "b*b=b;b*c=c")};
        for (FusionRules x : fewer) {
            x.table(0, 0, 7);
            due("fewer", x.fill(), STATE);
            due("S stays", x.table(0, 0, 0), 7);
            x.set(1, 1);
            due("SIZE 1", x.fill(), 1);
            due("S is filled", x.table(0, 0, 0), 1);
        }
    }

    // ---- 24: given

    @Sentence(promise = 24, says = "GIVEN by S. NONE: SORTS; STATE: as told.")
    static void givenNone() {
        for (int size = 1; size <= 5; size++) {
            FusionRules x = made(0, size, 0);
            due("STATE", x.given(0, 0, 0), STATE);
            due("STATE", x.given(size - 1, size - 1, size - 1), STATE);
            for (int round = 0; round < 2; round++) {
                due("i beyond", x.given(size, 0, 0), NONE);
                due("j beyond", x.given(0, size, 0), NONE);
                due("k beyond", x.given(0, 0, size), NONE);
                due("i -1", x.given(-1, 0, 0), NONE);
                due("j -1", x.given(0, -1, 0), NONE);
                due("k -1", x.given(0, 0, -1), NONE);
                for (int odd : ODD) {
                    due("i " + odd, x.given(odd, 0, 0), NONE);
                    due("j " + odd, x.given(0, odd, 0), NONE);
                    due("k " + odd, x.given(0, 0, odd), NONE);
                }
                for (int i = 0; i < size; i++) {
                    x.table(i, i, 1);
                    x.table(0, i, 1);
                }
            }
            due("no more STATE", x.given(0, 0, 0), 1);
        }
    }

    @Sentence(promise = 24, says = "and no S (0, m) is 0: of i, j, k")
    static void givenByNoZero() {
        due("the first one is 0", tables(2, new int[][] {{0, 1}, {1, 0}}).given(0, 0, 0), STATE);
        due("the last one is 0", tables(2, new int[][] {{1, 0}, {0, 1}}).given(0, 0, 0), STATE);
        due("the last of five is 0", tables(5, new int[][] {{1, 1, 1, 1, 0}, {0, 1}, {0, 0, 1}, {0, 0, 0, 1},
            {0, 0, 0, 0, 1}}).given(0, 0, 0), STATE);
        due("none is 0", tables(5, new int[][] {{1, 1, 1, 1, 30}, {0, 1}, {0, 0, 1}, {0, 0, 0, 1},
            {0, 0, 0, 0, 1}}).given(0, 0, 0), 1);
        due("a 0 in another row", tables(2, new int[][] {{1, 1}, {0, 1}}).given(0, 0, 0), 1);
        due("0 beyond SIZE", tables(1, new int[][] {{30, 0}}).given(0, 0, 0), 1);
    }

    @Sentence(promise = 24, says = "GIVEN by S: if there are W (m, k) such that for all i, k")
    static void givenByInverse() {
        due("rows that are alike", tables(2, new int[][] {{1, 2}, {1, 2}}).given(0, 0, 0), STATE);
        due("by 31: 2 times 16 is 1", tables(2, new int[][] {{1, 2}, {16, 1}}).given(0, 0, 0), STATE);
        due("a sum of two", tables(3, new int[][] {{1, 2, 3}, {4, 5, 6}, {5, 7, 9}}).given(0, 0, 0), STATE);
        due("by 31: 7 times 9 is 1", tables(4, new int[][] {{7, 1, 30, 2}, {0, 0, 0, 5}, {0, 0, 3, 1}, {1, 9, 9, 9}})
            .given(0, 0, 0), STATE);
        due("a row of 0", tables(3, new int[][] {{1, 2, 3}, {4, 5, 6}}).given(0, 0, 0), STATE);
        due("no more than that row", tables(2, new int[][] {{1, 2}, {16, 2}, {7, 7}}).given(0, 0, 0), 1);
        due("a 0 in the last place", tables(2, new int[][] {{1, 1}, {1, 0}}).given(0, 0, 0), 1);
        due("a 0 where a row begins", tables(3, new int[][] {{1, 1, 1}, {1, 1, 0}, {1, 0, 0}}).given(0, 0, 0), 1);
        due("SIZE 1", tables(1, new int[][] {{7}}).given(0, 0, 0), 1);
    }

    @Sentence(promise = 24, says = "the sum of S (i, m) W (m, k) is 1, if i is k, else 0")
    static void givenOfOneSecond() {
        int[][][] all = {{{1, 2, 3}, {2, 4, 1}, {3, 1, 5}}, {{1, 2, 3}, {2, 4, 1}, {3, 6, 5}}, {{7, 1, 30, 2}, {0, 0, 0, 5}, {0, 0, 3, 1},
            {1, 8, 9, 9}}, {{1, 1, 1, 1, 1}, {1, 1, 1, 1, 2}, {2, 2, 2, 3, 1}, {3, 3, 4, 1, 1}, {4, 5, 1, 1, 1}}};
        for (int[][] s : all) {
            FusionRules x = tables(s[0].length, s);
            boolean alike = s[2][1] == 6;
            for (int i = 0; i < s.length; i++) {
                for (int k = 0; k < s.length; k++) {
                    // by ONE all of S (0, m) falls out, and that sum is left
                    due("i " + i + ", k " + k, x.given(i, 0, k), alike ? STATE : i == k ? 1 : 0);
                    due("ONE first", x.given(0, i, k), alike ? STATE : i == k ? 1 : 0);
                }
            }
        }
    }

    @Sentence(promise = 24, says = "those of SORTS there are count, all MODULO 31.")
    static void givenModulo() {
        // S is 1 2, 3 5; its inverse is -5 2, 3 -1
        FusionRules x = tables(2, new int[][] {{1, 2, 9}, {3, 5, 9}, {9, 9, 9}});
        due("b b a: 9 times -5, and 25 times 3 by 2", x.given(1, 1, 0), Math.floorMod(-45 + 75 * 16, 31));
        due("b b b: 9 times 2, less 25 by 2", x.given(1, 1, 1), Math.floorMod(18 - 25 * 16, 31));
        due("b a b", x.given(1, 0, 1), 1);
        due("b a a", x.given(1, 0, 0), 0);
        FusionRules y = tables(2, new int[][] {{30, 30}, {30, 1}});
        due("all 30", y.given(1, 1, 0), 1);
        due("all 30", y.given(1, 1, 1), 0);
    }

    // ---- 25: law

    @Sentence(promise = 25, says = "LAW 0, 1: whether it is so (1, 0). NONE.")
    static void lawNone() {
        FusionRules x = tables(1, new int[][] {{1}}, 1);
        due("0", x.law(0), 1);
        due("1", x.law(1), 1);
        due("2", x.law(2), NONE);
        due("-1", x.law(-1), NONE);
        for (int odd : ODD) {
            due("law " + odd, x.law(odd), NONE);
        }
    }

    @Sentence(promise = 25, says = "LAW 0: S times S is one number, not 0, times a table with just one 1 in each row and column and 0 else.")
    static void lawOfSquares() {
        due("SIZE 1, 0", made(0, 1, 0).law(0), 0);
        due("SIZE 1, 30", tables(1, new int[][] {{30}}).law(0), 1);
        due("all 0", made(0, 5, 0).law(0), 0);
        due("1 else 0", tables(2, new int[][] {{1, 0}, {0, 1}}).law(0), 1);
        due("1 and -1", tables(2, new int[][] {{1, 0}, {0, 30}}).law(0), 1);
        due("one number in another column", tables(3, new int[][] {{0, 7, 0}, {0, 0, 7}, {7, 0, 0}}).law(0), 1);
        due("two numbers", tables(2, new int[][] {{1, 0}, {0, 2}}).law(0), 0);
        due("the last one is another", tables(3, new int[][] {{1, 0, 0}, {0, 1, 0}, {0, 0, 3}}).law(0), 0);
        due("an empty row", tables(2, new int[][] {{1, 0}, {0, 0}}).law(0), 0);
        due("an empty row ahead", tables(2, new int[][] {{0, 0}, {0, 1}}).law(0), 0);
        due("two in a column", tables(2, new int[][] {{1, 0}, {1, 0}}).law(0), 0);
        due("two in a column, another one between", tables(3, new int[][] {{1, 0, 0}, {0, 1, 0}, {1, 0, 0}}).law(0), 0);
        due("two in a row", tables(2, new int[][] {{1, 1}, {0, 0}}).law(0), 0);
        due("two in a row, MODULO 31 not 0", tables(2, new int[][] {{1, 1}, {0, 1}}).law(0), 0);
        due("MODULO 31: 1 30", tables(2, new int[][] {{1, 30}, {0, 30}}).law(0), 1);
        // 2 by 2 of 4 4, 4 -4: 32 is 1
        due("MODULO 31: 32 is 1", tables(2, new int[][] {{4, 4}, {4, 27}}).law(0), 1);
        due("beyond SIZE does not count", tables(2, new int[][] {{1, 0, 5}, {0, 1, 5}, {5, 5, 5}}).law(0), 1);
        due("five", tables(5, new int[][] {{1}, {0, 0, 0, 0, 1}, {0, 0, 0, 1}, {0, 0, 1}, {0, 1}}).law(0), 1);
    }

    @Sentence(promise = 25, says = "three times multiplied, is one number, not 0, times S times S")
    static void lawOfCubes() {
        due("SIZE 1", tables(1, new int[][] {{30}}, 30).law(1), 1);
        due("SIZE 1, TWIST 0: the number is 0", tables(1, new int[][] {{30}}, 0).law(1), 0);
        due("1 else 0, TWIST 1", tables(2, new int[][] {{1, 0}, {0, 1}}, 1, 1).law(1), 1);
        due("30 times", tables(2, new int[][] {{1, 0}, {0, 1}}, 30, 30).law(1), 1);
        due("5 and 25 times themselves are 1", tables(2, new int[][] {{1, 0}, {0, 1}}, 5, 25).law(1), 1);
        due("two numbers", tables(2, new int[][] {{1, 0}, {0, 1}}, 1, 2).law(1), 0);
        due("the last one is another", tables(3, new int[][] {{1, 0, 0}, {0, 1, 0}, {0, 0, 1}}, 1, 1, 3).law(1), 0);
        due("one of them is 0", tables(2, new int[][] {{1, 0}, {0, 1}}, 1, 0).law(1), 0);
        due("all TWISTS are 0", tables(2, new int[][] {{1, 0}, {0, 1}}).law(1), 0);
        due("beyond SIZE does not count", tables(1, new int[][] {{2, 3}, {3, 3}}, 4, 9).law(1), 1);
        due("MODULO 31: 4 4, 4 -4 by 1", tables(2, new int[][] {{4, 4}, {4, 27}}, 1, 1).law(1), 0);
    }

    @Sentence(promise = 25, says = "times S times S, not all numbers of which are 0.")
    static void lawOfNothing() {
        due("S is 0", tables(1, new int[][] {{0}}, 1).law(1), 0);
        due("all are 0", tables(5, new int[][] {}, 1, 1, 1, 1, 1).law(1), 0);
        due("S S is 0", tables(2, new int[][] {{0, 1}, {0, 0}}, 1, 1).law(1), 0);
        due("MODULO 31", tables(2, new int[][] {{1, 30}, {1, 30}}, 1, 1).law(1), 0);
        due("one number of S S is not 0", tables(2, new int[][] {{0, 0}, {0, 1}}, 0, 1).law(1), 1);
        due("one number of S S is not 0", tables(3, new int[][] {{0}, {0}, {0, 0, 2}}, 0, 0, 1).law(1), 1);
    }

    @Sentence(promise = 25, says = "(each column m of S times TWIST (m))")
    static void lawOfColumns() {
        // S times S is S; by columns the cube is S, by rows its second row would be twice as much
        due("columns", tables(2, new int[][] {{1, 0}, {1, 0}}, 1, 2).law(1), 1);
        due("not rows", tables(2, new int[][] {{1, 1}, {0, 0}}, 1, 2).law(1), 0);
    }
}
