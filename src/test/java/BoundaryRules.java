/** The boundary cases of promises 1 to 5 and 7 to 10: a new object, rules. */
final class BoundaryRules extends Runs {
    private BoundaryRules() {
    }

    // ---- 1: a new object

    @Sentence(promise = 1, says = "By KIND (0 at first)")
    static void kindAtFirst() {
        due("of(0)", new FusionRules().of(0), 0);
    }

    @Sentence(promise = 1, says = "SIZE (1 .. 5; 2 at first)")
    static void sizeAtFirst() {
        FusionRules x = new FusionRules();
        due("of(1)", x.of(1), 2);
        due("the last SORT", x.often(1, 1, 1), 0);
        due("no SORT", x.often(1, 1, 2), NONE);
    }

    @Sentence(promise = 1, says = "FIGURE f (0 .. 9; 0 at first)")
    static void figureAtFirst() {
        FusionRules x = new FusionRules();
        due("of(2)", x.of(2), 0);
        x.set(0, 4);
        due("T and T", x.often(1, 1, 1), 0);
    }

    @Sentence(promise = 1, says = "No RULES told.")
    static void noRules() {
        FusionRules x = new FusionRules();
        x.set(1, 5);
        for (int i = 1; i < 5; i++) {
            for (int j = 1; j < 5; j++) {
                text(i + " and " + j, gives(x, i, j), "0 0 0 0 0");
            }
        }
        due("no CLASH", x.clash(0), NOT);
        due("no PARTNER", x.partner(1), NOT);
    }

    @Sentence(promise = 1, says = "0 TOLD: as THE TABLE tells (0 at first, for i, j 1 .. 4, k 0 .. 4;")
    static void tableAtFirst() {
        FusionRules x = new FusionRules();
        for (int place = 0; place < 80; place++) {
            due("tell", x.tell(1 + place / 20, 1 + place / 5 % 4, place % 5, 9), 0);
        }
        due("all 80 are told now", x.count(0), 80);
    }

    @Sentence(promise = 1, says = "have a number (0 .. 999; 0 at first) for each of five SORTS")
    static void elementsAtFirst() {
        FusionRules x = new FusionRules();
        due("count", x.count(1), 0);
        x.set(1, 5);
        for (int element = 0; element < 4; element++) {
            text("element " + element, row(x, element), "0 0 0 0 0");
        }
    }

    @Sentence(promise = 1, says = "numbers 0 .. 30 for all five SORTS (0 at first)")
    static void twoTablesAtFirst() {
        FusionRules x = new FusionRules();
        for (int i = 0; i < 5; i++) {
            for (int m = 0; m < 5; m++) {
                due("S", x.table(i, m, 30), 0);
            }
            due("TWIST", x.twist(i, 30), 0);
        }
    }

    @Sentence(promise = 1, says = "THE PAPER holds the latest one (nothing at first)")
    static void paperAtFirst() {
        FusionRules x = new FusionRules();
        due("bytes", x.count(3), 0);
        due("byte 0", x.paper(0), NONE);
    }

    @Sentence(promise = 1, says = "LISTS 0 .. 3 hold nothing (at first)")
    static void listsAtFirst() {
        FusionRules x = new FusionRules();
        for (int list = 0; list < 4; list++) {
            due("get", x.get(list, 0), NO);
            due("put", x.put(list, 0, 1), NOTHING);
            due("judge", x.judge(list, 0, 0), NOTHING);
        }
    }

    @Sentence(promise = 1, says = "THE TAPE (60 bytes at most)")
    static void tapeAtFirst() {
        FusionRules x = new FusionRules();
        due("bytes", x.count(2), 0);
        due("ends at once", x.rules(), -100);
        due("ends at once", x.element(0), -100);
    }

    @Sentence(promise = 1, says = "A PLAN: ROWS told by hand (8 at most)")
    static void planAtFirst() {
        FusionRules x = new FusionRules();
        due("ROWS", x.count(4), 0);
        due("the first one", x.plan(0, 0), 1);
    }

    @Sentence(promise = 1, says = "STATE: there is none.")
    static void imageAtFirst() {
        due("undo", new FusionRules().undo(), STATE);
    }

    @Sentence(promise = 1, says = "An object is used for at most 512 calls after it has been made;")
    static void lastCall() {
        FusionRules x = new FusionRules();
        for (int call = 1; call <= 510; call++) {
            due("plan", x.plan(call % 9 == 0 ? -1 : 2, 9), call % 9);
        }
        due("call 511", x.image(), 2);
        due("call 512", x.undo(), 2);
    }

    @Sentence(promise = 1, says = "NONE (-1) no such number; BAD (-2) a number is not as told; STATE (-3) as told; FULL (-4); NOT (-5) as told;")
    static void constants() {
        due("NONE", FusionRules.NONE, -1);
        due("BAD", FusionRules.BAD, -2);
        due("STATE", FusionRules.STATE, -3);
        due("FULL", FusionRules.FULL, -4);
        due("NOT", FusionRules.NOT, -5);
        due("NO", FusionRules.NO, Long.MIN_VALUE);
    }

    @Sentence(promise = 1, says = "## Promise 1: A new object `FusionRules()`: No RULES told.")
    static void newBesideAnother() {
        FusionRules other = Whole.made();
        FusionRules x = new FusionRules();
        for (int what = 0; what < 5; what++) {
            due("count", x.count(what), 0);
        }
        due("get", x.get(0, 0), NO);
        due("undo", x.undo(), STATE);
        x.set(1, 5);
        x.tell(1, 1, 0, 9);
        due("the other one stays", other.of(1), 3);
        due("its TABLE, too", other.often(1, 1, 0), 1);
    }

    // ---- 2: set

    private static void range(int what, int least, int most) {
        FusionRules x = new FusionRules();
        x.set(what, most);
        for (int v = least; v <= most; v++) {
            due("set to " + v, x.set(what, v), v == least ? most : v - 1);
            due("is " + v, x.of(what), v);
        }
        due("one too small", x.set(what, least - 1), BAD);
        due("one too large", x.set(what, most + 1), BAD);
        for (int odd : ODD) {
            due("set to " + odd, x.set(what, odd), BAD);
        }
        due("it stays", x.of(what), most);
    }

    @Sentence(promise = 2, says = "KIND (what 0; 0 .. 4)")
    static void setKind() {
        range(0, 0, 4);
    }

    @Sentence(promise = 2, says = "SIZE (1; 1 .. 5)")
    static void setSize() {
        range(1, 1, 5);
    }

    @Sentence(promise = 2, says = "FIGURE (2; 0 .. 9)")
    static void setFigure() {
        range(2, 0, 9);
    }

    @Sentence(promise = 2, says = "becomes v: what it was. NONE: what; BAD.")
    static void setNone() {
        FusionRules x = new FusionRules();
        due("3", x.set(3, 1), NONE);
        due("-1", x.set(-1, 1), NONE);
        due("NONE ahead of BAD", x.set(3, 99), NONE);
        due("NONE ahead of BAD", x.set(-1, -1), NONE);
        for (int odd : ODD) {
            due("set " + odd, x.set(odd, 1), NONE);
        }
    }

    @Sentence(promise = 2, says = "SORTS 0 .. n - 1 (letters a .. e), n being SIZE")
    static void eachSize() {
        FusionRules x = new FusionRules();
        for (int size = 1; size <= 5; size++) {
            x.set(1, size);
            due("the last SORT", x.has(0, size - 1), 0);
            due("one beyond", x.has(0, size), NONE);
            due("the last SORT", x.often(size - 1, 0, size - 1), 1);
            due("one beyond", x.often(size, 0, 0), NONE);
            due("its bits", x.hull((1 << size) - 1), (1 << size) - 1);
            due("bits of none", x.hull(1 << size), BAD);
        }
    }

    @Sentence(promise = 2, says = "those beyond SIZE stay, and do not count). 1 CYCLE")
    static void tableBeyondSize() {
        FusionRules x = told(5, "e*e=a;d*e=c");
        x.tell(1, 1, 4, 7);
        x.set(1, 4);
        text("no SORT 4", gives(x, 1, 1), "0 0 0 0");
        due("SORT 3 has no PARTNER", x.partner(3), NOT);
        due("nothing of it is left in a power", x.power(1, 2, 0), 0);
        due("no CLASH by it", x.clash(0), NOT);
        due("CLOSED without it", x.closed(3), 1);
        x.set(1, 5);
        text("it is there again", gives(x, 1, 1), "0 0 0 0 7");
        text("it is there again", gives(x, 4, 4), "1 0 0 0 0");
        text("it is there again", gives(x, 4, 3), "0 0 1 0 0");
    }

    @Sentence(promise = 2, says = "have a number (0 .. 999; 0 at first) for each of five SORTS (those beyond SIZE stay, and do not count)")
    static void elementsBeyondSize() {
        FusionRules x = made(0, 5, 0);
        x.give(0, 4, 999);
        x.give(0, 0, 2);
        x.set(1, 4);
        due("not asked for", x.has(0, 4), NONE);
        due("not counted together", x.together(0, 0), 4);
        text("not written", written(x, 0), "4a");
        x.set(1, 5);
        due("it is there again", x.has(0, 4), 999);
    }

    // ---- 3: of

    @Sentence(promise = 3, says = "As of set() (0 .. 2). NONE.")
    static void ofNone() {
        FusionRules x = made(4, 3, 7);
        due("0", x.of(0), 4);
        due("1", x.of(1), 3);
        due("2", x.of(2), 7);
        due("3", x.of(3), NONE);
        due("-1", x.of(-1), NONE);
        for (int odd : ODD) {
            due("of " + odd, x.of(odd), NONE);
        }
    }

    // ---- 4: tell

    @Sentence(promise = 4, says = "THE TABLE for i, j (1 .. 4), k (0 .. 4) becomes v (0 .. 9): what it was.")
    static void tellEdges() {
        FusionRules x = made(0, 5, 0);
        int[][] corners = {{1, 1, 0}, {1, 1, 4}, {1, 4, 0}, {1, 4, 4}, {4, 1, 0}, {4, 1, 4}, {4, 4, 0}, {4, 4, 4}};
        for (int[] at : corners) {
            due("least", x.tell(at[0], at[1], at[2], 0), 0);
            due("most", x.tell(at[0], at[1], at[2], 9), 0);
            due("told", x.often(at[0], at[1], at[2]), 9);
            due("what it was", x.tell(at[0], at[1], at[2], 1), 9);
        }
        due("no other one", x.count(0), 8);
    }

    @Sentence(promise = 4, says = "NONE: i, j, k; BAD.")
    static void tellNone() {
        FusionRules x = made(0, 5, 0);
        int[][] none = {{0, 1, 0}, {5, 1, 0}, {-1, 1, 0}, {1, 0, 0}, {1, 5, 0}, {1, -1, 0}, {1, 1, -1}, {1, 1, 5}, {0, 0, 0}};
        for (int[] at : none) {
            due("NONE", x.tell(at[0], at[1], at[2], 1), NONE);
            due("NONE ahead of BAD", x.tell(at[0], at[1], at[2], 10), NONE);
            due("NONE ahead of BAD", x.tell(at[0], at[1], at[2], -1), NONE);
        }
        for (int odd : ODD) {
            due("i " + odd, x.tell(odd, 1, 0, 1), NONE);
            due("j " + odd, x.tell(1, odd, 0, 1), NONE);
            due("k " + odd, x.tell(1, 1, odd, 1), NONE);
            due("v " + odd, x.tell(1, 1, 0, odd), BAD);
        }
        due("v -1", x.tell(1, 1, 0, -1), BAD);
        due("v 10", x.tell(1, 1, 0, 10), BAD);
        due("nothing is told", x.count(0), 0);
    }

    @Sentence(promise = 4, says = "those beyond SIZE stay, and do not count). 1 CYCLE")
    static void tellBeyondSize() {
        FusionRules x = made(0, 1, 0);
        due("by SIZE 1", x.tell(1, 1, 0, 3), 0);
        due("beyond", x.tell(4, 4, 4, 5), 0);
        due("it does not count", x.often(1, 1, 0), NONE);
        due("it stays", x.tell(4, 4, 4, 6), 5);
        x.set(1, 5);
        due("it counts now", x.often(4, 4, 4), 6);
        due("it counts now", x.often(1, 1, 0), 3);
    }

    @Sentence(promise = 4, says = "0 TOLD: as THE TABLE tells")
    static void tellByAnotherKind() {
        FusionRules x = made(1, 3, 0);
        due("tell", x.tell(1, 1, 1, 8), 0);
        due("as of CYCLE", x.often(1, 1, 1), 0);
        x.set(0, 0);
        due("as told", x.often(1, 1, 1), 8);
        due("i ahead of j", x.tell(1, 2, 0, 4), 0);
        due("j and i stay", x.often(2, 1, 0), 0);
    }

    // ---- 5: feed

    @Sentence(promise = 5, says = "A byte (1 .. 127) comes behind THE TAPE's: how many it has.")
    static void feedEdges() {
        FusionRules x = new FusionRules();
        due("0", x.feed(0), BAD);
        due("1", x.feed(1), 1);
        due("127", x.feed(127), 2);
        due("128", x.feed(128), BAD);
        due("-1", x.feed(-1), BAD);
        due("the byte of 256 more", x.feed(256 + 'a'), BAD);
        for (int odd : ODD) {
            due("feed " + odd, x.feed(odd), BAD);
        }
        due("two bytes", x.count(2), 2);
    }

    @Sentence(promise = 5, says = "THE TAPE (60 bytes at most)")
    static void feedFull() {
        FusionRules x = new FusionRules();
        for (int many = 1; many <= 60; many++) {
            due("feed", x.feed(many == 60 ? '+' : many % 2 == 0 ? '+' : 'a'), many);
        }
        due("byte 61", x.feed('a'), FULL);
        due("byte 61 again", x.feed('a'), FULL);
        due("60 bytes", x.count(2), 60);
        due("it ends behind byte 60", x.element(0), -160);
        due("there is room again", x.feed('a'), 1);
    }

    @Sentence(promise = 5, says = "BAD; FULL.")
    static void feedBadAheadOfFull() {
        FusionRules x = new FusionRules();
        feed(x, "a".repeat(60));
        due("0", x.feed(0), BAD);
        due("128", x.feed(128), BAD);
        due("1", x.feed(1), FULL);
        due("127", x.feed(127), FULL);
    }

    @Sentence(promise = 5, says = "THE TAPE is empty behind each call that reads it.")
    static void feedBehindReading() {
        FusionRules x = new FusionRules();
        for (int round = 0; round < 4; round++) {
            feed(x, "b*b=" + "b".repeat(56));
            due("full", x.feed('a'), FULL);
            if (round % 2 == 0) {
                due("RULES", x.rules(), -105);
            } else {
                due("an ELEMENT", x.element(0), -101);
            }
            due("empty", x.count(2), 0);
        }
    }

    // ---- 7: often

    @Sentence(promise = 7, says = "OFTEN. NONE: SORTS.")
    static void oftenNone() {
        for (int kind = 0; kind <= 4; kind++) {
            for (int size = 1; size <= 5; size++) {
                FusionRules x = made(kind, size, 9);
                int[] none = {-1, size, 5, Integer.MIN_VALUE, Integer.MAX_VALUE};
                for (int no : none) {
                    due("i " + no, x.often(no, 0, 0), NONE);
                    due("j " + no, x.often(0, no, 0), NONE);
                    due("k " + no, x.often(0, 0, no), NONE);
                }
                due("the last ones", x.often(size - 1, 0, size - 1), 1);
            }
        }
    }

    @Sentence(promise = 7, says = "wherever i or j is ONE, it is as of PLAIN")
    static void oftenOfOne() {
        for (int kind = 0; kind <= 4; kind++) {
            for (int size = 1; size <= 5; size++) {
                FusionRules x = made(kind, size, 9);
                for (int i = 0; i < size; i++) {
                    for (int k = 0; k < size; k++) {
                        due("ONE and " + i + ", " + k, x.often(0, i, k), i == k ? 1 : 0);
                        due(i + " and ONE, " + k, x.often(i, 0, k), i == k ? 1 : 0);
                    }
                }
            }
        }
    }

    @Sentence(promise = 7, says = "ONE and j give j once, i and ONE give i once; nothing else is given.")
    static void oftenOfOneWithFullTable() {
        FusionRules x = made(0, 5, 9);
        for (int place = 0; place < 80; place++) {
            x.tell(1 + place / 20, 1 + place / 5 % 4, place % 5, 9);
        }
        text("ONE and ONE", gives(x, 0, 0), "1 0 0 0 0");
        text("ONE and the last one", gives(x, 0, 4), "0 0 0 0 1");
        text("the last one and ONE", gives(x, 4, 0), "0 0 0 0 1");
        text("the first told ones", gives(x, 1, 1), "9 9 9 9 9");
    }

    @Sentence(promise = 7, says = "RULES tell how OFTEN (0 .. 9) a SORT k is in what i and j give.")
    static void oftenEdges() {
        FusionRules x = made(0, 5, 0);
        x.tell(4, 4, 4, 9);
        x.tell(1, 4, 0, 9);
        due("9 times", x.often(4, 4, 4), 9);
        due("9 times", x.often(1, 4, 0), 9);
        due("0 times", x.often(4, 1, 0), 0);
    }

    @Sentence(promise = 7, says = "1 CYCLE: (i and j) modulo n once.")
    static void oftenInCycle() {
        text("just below n", gives(made(1, 5, 0), 1, 3), "0 0 0 0 1");
        text("n becomes 0", gives(made(1, 5, 0), 1, 4), "1 0 0 0 0");
        text("n becomes 0", gives(made(1, 5, 0), 3, 2), "1 0 0 0 0");
        text("one above n", gives(made(1, 5, 0), 3, 3), "0 1 0 0 0");
        text("the most", gives(made(1, 5, 0), 4, 4), "0 0 0 1 0");
        text("SIZE 2", gives(made(1, 2, 0), 1, 1), "1 0");
        text("SIZE 1", gives(made(1, 1, 0), 0, 0), "1");
    }

    @Sentence(promise = 7, says = "up to the lesser of these two: i and j together; 2 n less 2, less i, less j.")
    static void oftenOnLadder() {
        FusionRules x = made(2, 5, 0);
        text("i and j are the lesser", gives(x, 1, 1), "1 0 1 0 0");
        text("i and j are the lesser", gives(x, 1, 2), "0 1 0 1 0");
        text("both are alike", gives(x, 2, 2), "1 0 1 0 1");
        text("both are alike", gives(x, 3, 1), "0 0 1 0 1");
        text("the other is the lesser", gives(x, 2, 3), "0 1 0 1 0");
        text("the other is the lesser", gives(x, 3, 3), "1 0 1 0 0");
        text("just one", gives(x, 3, 4), "0 1 0 0 0");
        text("just one", gives(x, 1, 4), "0 0 0 1 0");
        text("the last ones", gives(x, 4, 4), "1 0 0 0 0");
        text("SIZE 2", gives(made(2, 2, 0), 1, 1), "1 0");
        text("SIZE 1", gives(made(2, 1, 0), 0, 0), "1");
    }

    @Sentence(promise = 7, says = "T and T give each of the others once (with SIZE 1: PLAIN).")
    static void oftenInHouse() {
        text("SIZE 1", gives(made(3, 1, 9), 0, 0), "1");
        text("SIZE 2", gives(made(3, 2, 9), 1, 1), "1 0");
        text("SIZE 3, T and T", gives(made(3, 3, 9), 2, 2), "1 1 0");
        text("SIZE 5, T and T", gives(made(3, 5, 9), 4, 4), "1 1 1 1 0");
    }

    @Sentence(promise = 7, says = "and the others as a CYCLE of n less 1: T and another one give T once")
    static void oftenOfOthersInHouse() {
        for (int kind = 3; kind <= 4; kind++) {
            FusionRules x = made(kind, 5, 9);
            text("below n less 1", gives(x, 1, 2), "0 0 0 1 0");
            text("n less 1 becomes 0", gives(x, 1, 3), "1 0 0 0 0");
            text("the most", gives(x, 3, 3), "0 0 1 0 0");
            text("T and the least", gives(x, 4, 1), "0 0 0 0 1");
            text("the most and T", gives(x, 3, 4), "0 0 0 0 1");
            text("SIZE 3: n less 1 is 2", gives(made(kind, 3, 9), 1, 1), "1 0 0");
        }
    }

    @Sentence(promise = 7, says = "4 NEAR, under HOUSE: T and T give T f times more.")
    static void oftenNear() {
        text("f 0", gives(made(4, 3, 0), 2, 2), "1 1 0");
        text("f 1", gives(made(4, 3, 1), 2, 2), "1 1 1");
        text("f 9", gives(made(4, 5, 9), 4, 4), "1 1 1 1 9");
        text("f 9, SIZE 2", gives(made(4, 2, 9), 1, 1), "1 9");
        text("f 9, SIZE 1: PLAIN", gives(made(4, 1, 9), 0, 0), "1");
        text("T and another one", gives(made(4, 3, 9), 2, 1), "0 0 1");
    }

    // ---- 8: clash

    @Sentence(promise = 8, says = "NONE: what; NOT: there is none.")
    static void clashNone() {
        FusionRules x = told(3, "b*b=c");
        x.tell(1, 2, 0, 1);
        due("2", x.clash(2), NONE);
        due("-1", x.clash(-1), NONE);
        for (int odd : ODD) {
            due("clash " + odd, x.clash(odd), NONE);
        }
        due("a CLASH", x.clash(0), 1110);
        due("UNLIKE", x.clash(1), 12);
        x.set(1, 2);
        due("no CLASH", x.clash(0), NOT);
        due("no UNLIKE", x.clash(1), NOT);
        x.set(1, 1);
        due("SIZE 1: no CLASH", x.clash(0), NOT);
        due("SIZE 1: no UNLIKE", x.clash(1), NOT);
    }

    @Sentence(promise = 8, says = "CLASH: the first i, j, k, l (as a row) of SORTS")
    static void firstClash() {
        FusionRules x = made(0, 5, 0);
        x.tell(4, 4, 3, 1);
        x.tell(3, 4, 1, 1);
        x.tell(4, 3, 2, 1);
        // (4 4) 4 = 3 4 = 1; 4 (4 4) = 4 3 = 2; all others give nothing or are alike
        due("the last i, j, k", x.clash(0), 4441);
        x.tell(4, 3, 1, 1);
        due("a later l", x.clash(0), 4442);
        x.tell(4, 3, 1, 0);
        x.tell(1, 1, 4, 1);
        // (1 1) 3 = 4 3 = 2; 1 (1 3) = nothing
        due("an earlier row", x.clash(0), 1132);
        x.tell(1, 4, 4, 1);
        // (1 1) 1 = 4 1 = nothing; 1 (1 1) = 1 4 = 4
        due("an earlier k, the last l", x.clash(0), 1114);
        x.tell(1, 1, 0, 1);
        // (1 1) 1 = 1 + 4 1 = 1; 1 (1 1) = 1 + 1 4 = 1 + 4
        due("ONE changes nothing", x.clash(0), 1114);
        x.tell(1, 4, 0, 1);
        due("l is ONE", x.clash(0), 1110);
    }

    @Sentence(promise = 8, says = "CLASH (what 0: 1000 times i, 100 times j, 10 times k, and l), UNLIKE (1: 10 times i, and j).")
    static void clashAsNumber() {
        FusionRules x = told(3, "b*b=c");
        x.tell(2, 1, 0, 1);
        // (1 1) 1 = 2 1 = ONE; 1 (1 1) = 1 2 = nothing
        due("the least that there is", x.clash(0), 1110);
        due("UNLIKE", x.clash(1), 12);
        FusionRules y = made(0, 5, 0);
        y.tell(4, 4, 3, 1);
        y.tell(3, 4, 1, 1);
        due("by 4, 4 and 4", y.clash(0), 4441);
        due("the last UNLIKE", y.clash(1), 34);
    }

    @Sentence(promise = 8, says = "(sums: OFTEN times OFTEN, over all between)")
    static void clashOfSums() {
        FusionRules x = made(0, 3, 0);
        x.tell(1, 1, 2, 2);
        x.tell(2, 1, 2, 2);
        x.tell(1, 2, 2, 3);
        // (1 1) 1 = 2 times 2 1, so SORT 2 four times; 1 (1 1) = 2 times 1 2, so six times
        due("4 is not 6", x.clash(0), 1112);
        x.tell(2, 1, 2, 3);
        // (1 1) 2 = 2 times 2 2; 1 (1 2) = 3 times 1 2, so SORT 2 nine times
        due("6 is 6, 0 is not 9", x.clash(0), 1122);
        x.tell(2, 2, 2, 5);
        due("10 is not 9", x.clash(0), 1122);
        x.tell(1, 1, 1, 1);
        // (1 1) 1 = 1 1 + 2 times 2 1 = 1 + 8 times 2; 1 (1 1) likewise
        // (1 1) 2 = 1 2 + 2 times 2 2 = 13 times; 1 (1 2) = 3 times 1 2, nine times
        due("over all between", x.clash(0), 1122);
        x.tell(2, 2, 2, 3);
        due("3 + 6 is 9", x.clash(0), NOT);
    }

    @Sentence(promise = 8, says = "UNLIKE: the first i, j such that what i and j give is not what j and i give.")
    static void firstUnlike() {
        FusionRules x = made(0, 5, 0);
        x.tell(4, 3, 4, 1);
        due("the last pair", x.clash(1), 34);
        x.tell(3, 4, 4, 2);
        due("not as often", x.clash(1), 34);
        x.tell(4, 2, 0, 1);
        due("an earlier one", x.clash(1), 24);
        x.tell(2, 3, 1, 1);
        due("an earlier j", x.clash(1), 23);
        x.tell(2, 1, 3, 1);
        due("an earlier i", x.clash(1), 12);
        x.set(1, 2);
        due("beyond SIZE", x.clash(1), NOT);
        for (int kind = 1; kind <= 4; kind++) {
            due("none by KIND " + kind, made(kind, 5, 9).clash(1), NOT);
        }
    }

    // ---- 9: partner

    @Sentence(promise = 9, says = "PARTNER. NONE; NOT.")
    static void partnerNone() {
        for (int size = 1; size <= 5; size++) {
            FusionRules x = made(0, size, 0);
            due("-1", x.partner(-1), NONE);
            due("one beyond", x.partner(size), NONE);
            due("ONE", x.partner(0), 0);
            due("the last SORT", x.partner(size - 1), size == 1 ? 0 : NOT);
            for (int odd : ODD) {
                due("partner " + odd, x.partner(odd), NONE);
            }
        }
    }

    @Sentence(promise = 9, says = "the j, if there is just one, with which it gives ONE, and gives it once.")
    static void partnerOnce() {
        FusionRules x = made(0, 5, 0);
        x.tell(1, 4, 0, 1);
        due("the last one", x.partner(1), 4);
        due("not the other way", x.partner(4), NOT);
        x.tell(1, 4, 0, 2);
        due("twice", x.partner(1), NOT);
        x.tell(1, 4, 0, 9);
        due("nine times", x.partner(1), NOT);
        x.tell(1, 4, 0, 0);
        due("never", x.partner(1), NOT);
        x.tell(1, 1, 0, 1);
        due("itself", x.partner(1), 1);
        x.tell(1, 4, 3, 9);
        due("other SORTS do not matter", x.partner(1), 1);
    }

    @Sentence(promise = 9, says = "PARTNER: if two SORTS give ONE, there is none, however often they do.")
    static void partnerOfTwo() {
        FusionRules x = made(0, 5, 0);
        x.tell(2, 1, 0, 1);
        x.tell(2, 4, 0, 1);
        due("once and once", x.partner(2), NOT);
        x.tell(2, 4, 0, 2);
        due("once and twice", x.partner(2), NOT);
        x.tell(2, 4, 0, 1);
        x.tell(2, 1, 0, 2);
        due("twice and once", x.partner(2), NOT);
        x.tell(2, 1, 0, 9);
        x.tell(2, 4, 0, 9);
        due("nine times each", x.partner(2), NOT);
        x.tell(2, 1, 0, 1);
        x.set(1, 4);
        due("one of them beyond SIZE", x.partner(2), 1);
    }

    // ---- 10: power

    @Sentence(promise = 10, says = "i put together m times, one behind the other (ONE, if m is 0)")
    static void powerByNone() {
        FusionRules x = made(0, 5, 0);
        for (int i = 0; i < 5; i++) {
            for (int k = 0; k < 5; k++) {
                due("by 0", x.power(i, 0, k), k == 0 ? 1 : 0);
                due("by 1", x.power(i, 1, k), k == i ? 1 : 0);
                due("by 2", x.power(i, 2, k), k == 0 && i == 0 ? 1 : 0);
            }
        }
    }

    @Sentence(promise = 10, says = "POWER of i by m (0 .. 8)")
    static void powerByMost() {
        FusionRules x = made(4, 2, 1);
        due("by 8", x.power(1, 8, 1), 21);
        due("by 8", x.power(1, 8, 0), 13);
        due("by 9", x.power(1, 9, 0), NO);
        due("by -1", x.power(1, -1, 0), NO);
        due("ONE by 8", x.power(0, 8, 0), 1);
        due("ONE by 8", x.power(0, 8, 1), 0);
    }

    @Sentence(promise = 10, says = "NO: SORTS, m.")
    static void powerNo() {
        for (int size = 1; size <= 5; size++) {
            FusionRules x = made(1, size, 0);
            due("i one beyond", x.power(size, 1, 0), NO);
            due("k one beyond", x.power(0, 1, size), NO);
            due("i -1", x.power(-1, 1, 0), NO);
            due("k -1", x.power(0, 1, -1), NO);
            for (int odd : ODD) {
                due("i " + odd, x.power(odd, 1, 0), NO);
                due("m " + odd, x.power(0, odd, 0), NO);
                due("k " + odd, x.power(0, 1, odd), NO);
            }
        }
    }

    @Sentence(promise = 10, says = "what is there so far, and i, always.")
    static void powerInOrder() {
        FusionRules x = made(0, 3, 0);
        x.tell(1, 1, 2, 1);
        x.tell(2, 1, 2, 2);
        x.tell(1, 2, 0, 1);
        due("(1 1) 1", x.power(1, 3, 2), 2);
        due("not 1 (1 1)", x.power(1, 3, 0), 0);
        due("by 8", x.power(1, 8, 2), 64);
    }

    @Sentence(promise = 10, says = "long power(int i, int m, int k)")
    static void powerOfManyFigures() {
        FusionRules x = made(0, 5, 0);
        for (int i = 1; i < 5; i++) {
            for (int k = 1; k < 5; k++) {
                x.tell(i, 1, k, 9);
            }
        }
        // 9 of each of four behind two, and 36 times as many behind each more
        long many = 9;
        for (int m = 3; m <= 8; m++) {
            many *= 36;
        }
        due("more than an int", x.power(1, 8, 4), many);
        due("is more than an int", many > Integer.MAX_VALUE ? 1 : 0, 1);
    }
}
