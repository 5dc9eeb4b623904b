/** The boundary cases of promises 29 to 39: plans, written, lists, the image. */
final class BoundaryLists extends Runs {
    private BoundaryLists() {
    }

    // ---- 29: plan

    @Sentence(promise = 29, says = "A ROW comes to the PLAN: how many there are (what -1: it is empty then, 0, whatever the other is).")
    static void planEmpty() {
        FusionRules x = new FusionRules();
        due("empty already", x.plan(-1, 0), 0);
        for (int odd : ODD) {
            due("a ROW", x.plan(2, 9), 1);
            due("another", x.plan(0, 0), 2);
            due("empty, v " + odd, x.plan(-1, odd), 0);
            due("no ROWS", x.count(4), 0);
        }
        due("v 10", x.plan(-1, 10), 0);
        for (int many = 1; many <= 8; many++) {
            due("a ROW", x.plan(1, 0), many);
        }
        due("a full one", x.plan(-1, -1), 0);
        due("a ROW", x.plan(1, 0), 1);
        due("the ROWS ahead are gone", x.ends(0, 0), 1);
    }

    @Sentence(promise = 29, says = "NONE: what; BAD: v (by 0, 1 0 .. 4; by 2 0 .. 9); FULL.")
    static void planNoneBadFull() {
        FusionRules x = made(0, 1, 0);
        for (int round = 0; round < 2; round++) {
            due("what 3", x.plan(3, 0), NONE);
            due("what -2", x.plan(-2, 0), NONE);
            due("NONE ahead of BAD", x.plan(3, 10), NONE);
            due("NONE ahead of BAD", x.plan(-2, -1), NONE);
            due("0 by 5", x.plan(0, 5), BAD);
            due("0 by -1", x.plan(0, -1), BAD);
            due("1 by 5", x.plan(1, 5), BAD);
            due("1 by -1", x.plan(1, -1), BAD);
            due("2 by 10", x.plan(2, 10), BAD);
            due("2 by -1", x.plan(2, -1), BAD);
            for (int odd : ODD) {
                due("what " + odd, x.plan(odd, 0), NONE);
                for (int what = 0; what <= 2; what++) {
                    due("v " + odd, x.plan(what, odd), BAD);
                }
            }
            if (round == 0) {
                due("0 by 0", x.plan(0, 0), 1);
                due("0 by 4, beyond SIZE", x.plan(0, 4), 2);
                due("1 by 0", x.plan(1, 0), 3);
                due("1 by 4, beyond SIZE", x.plan(1, 4), 4);
                due("2 by 0", x.plan(2, 0), 5);
                due("2 by 9", x.plan(2, 9), 6);
                due("2 by 5", x.plan(2, 5), 7);
                due("the last one", x.plan(2, 9), 8);
            }
        }
        due("FULL", x.plan(0, 0), FULL);
        due("FULL", x.plan(1, 4), FULL);
        due("FULL", x.plan(2, 9), FULL);
        due("ROWS", x.count(4), 8);
    }

    @Sentence(promise = 29, says = "A PLAN: ROWS told by hand (8 at most)")
    static void planFull() {
        FusionRules x = new FusionRules();
        for (int many = 1; many <= 8; many++) {
            due("a ROW", x.plan(1, 1), many);
        }
        due("a ninth one", x.plan(2, 0), FULL);
        due("all eight are done, the ninth one is not", x.ends(0, 1), 8);
    }

    // ---- 30: ends

    @Sentence(promise = 30, says = "ENDS: the number of a SORT. NONE: element, SORT.")
    static void endsNone() {
        for (int size = 1; size <= 5; size++) {
            FusionRules x = made(0, size, 0);
            x.give(3, size - 1, 5);
            x.plan(1, size - 1);
            due("the last ones", x.ends(3, size - 1), 6);
            due("element 4", x.ends(4, 0), NONE);
            due("element -1", x.ends(-1, 0), NONE);
            due("SORT beyond", x.ends(0, size), NONE);
            due("SORT -1", x.ends(0, -1), NONE);
            for (int odd : ODD) {
                due("element " + odd, x.ends(odd, 0), NONE);
                due("SORT " + odd, x.ends(0, odd), NONE);
            }
        }
    }

    @Sentence(promise = 30, says = "ENDS: as it is behind all of it.")
    static void endsOfEmptyPlan() {
        FusionRules x = made(0, 3, 0);
        element(x, 0, "999a+c");
        due("no ROWS", x.ends(0, 0), 999);
        due("no ROWS", x.ends(0, 1), 0);
        due("no ROWS", x.ends(0, 2), 1);
        x.plan(2, 0);
        x.plan(1, 1);
        due("a ROW behind 0 times", x.ends(0, 1), 1);
        due("0 times", x.ends(0, 0), 0);
        text("nothing is done", row(x, 0), "999 0 1");
    }

    @Sentence(promise = 30, says = "0 it is PUT TOGETHER with SORT v (0 .. 4; left out, if there is none such)")
    static void endsPutTogether() {
        FusionRules x = made(1, 5, 0);
        element(x, 0, "5a+e");
        x.plan(0, 4);
        due("by the last SORT", x.ends(0, 4), 5);
        due("e by e", x.ends(0, 3), 1);
        due("of a nothing stays", x.ends(0, 0), 0);
        x.set(1, 4);
        due("by none such", x.ends(0, 0), 5);
        due("by none such", x.ends(0, 3), 0);
        x.plan(0, 3);
        due("the ROW behind it is done", x.ends(0, 3), 5);
        x.plan(-1, 0);
        x.plan(0, 0);
        due("by ONE", x.ends(0, 0), 5);
        x.set(0, 0);
        x.plan(0, 3);
        due("ONE by d", x.ends(0, 3), 5);
        x.plan(0, 3);
        due("d by d gives nothing", x.ends(0, 3), 0);
        x.tell(3, 1, 0, 2);
        x.tell(1, 3, 2, 7);
        x.plan(-1, 0);
        x.plan(0, 3);
        x.plan(0, 1);
        due("the ELEMENT first", x.ends(0, 0), 10);
        due("not the SORT", x.ends(0, 2), 0);
    }

    @Sentence(promise = 30, says = "1 the number of SORT v (0 .. 4; likewise) is 1 more")
    static void endsOneMore() {
        FusionRules x = made(0, 5, 0);
        for (int v = 0; v < 5; v++) {
            x.plan(1, v);
        }
        for (int v = 0; v < 5; v++) {
            due("SORT " + v, x.ends(0, v), 1);
        }
        x.set(1, 4);
        for (int v = 0; v < 4; v++) {
            due("SORT " + v, x.ends(0, v), 1);
        }
        due("beyond SIZE", x.ends(0, 4), NONE);
        x.plan(-1, 0);
        x.plan(1, 4);
        x.plan(2, 9);
        x.give(0, 0, 3);
        due("left out", x.ends(0, 0), 27);
        due("left out", x.ends(0, 3), 0);
    }

    @Sentence(promise = 30, says = "2 all numbers are v times as much (0 .. 9).")
    static void endsTimes() {
        FusionRules x = made(0, 5, 0);
        element(x, 1, "111a+b+2c+3d+4e");
        int[] by9 = {999, 9, 18, 27, 36};
        for (int v = 0; v <= 9; v++) {
            x.plan(-1, 0);
            x.plan(2, v);
            for (int k = 0; k < 5; k++) {
                due(v + " times SORT " + k, x.ends(1, k), by9[k] / 9 * v);
            }
        }
    }

    @Sentence(promise = 30, says = "Numbers above 999 become 999 behind each ROW.")
    static void endsAtMost() {
        FusionRules x = made(0, 2, 0);
        element(x, 0, "999a+998b");
        x.plan(1, 0);
        x.plan(1, 1);
        due("1000 becomes 999", x.ends(0, 0), 999);
        due("999 stays", x.ends(0, 1), 999);
        x.plan(1, 1);
        due("1000 becomes 999", x.ends(0, 1), 999);
        x.plan(-1, 0);
        for (int row = 0; row < 8; row++) {
            x.plan(2, 9);
        }
        due("9 times, eight times", x.ends(0, 0), 999);
        element(x, 0, "b");
        due("729 and 6561", x.ends(0, 1), 999);
        due("0 stays", x.ends(0, 0), 0);
        FusionRules y = told(2, "b*b=9a+9b");
        element(y, 0, "100a+111b");
        y.plan(0, 1);
        due("just 999", y.ends(0, 0), 999);
        due("1099 becomes 999", y.ends(0, 1), 999);
        y.plan(0, 1);
        // behind the first ROW 999 and 999
        due("8991 becomes 999", y.ends(0, 0), 999);
        FusionRules z = told(3, "b*b=9c;c*b=a");
        z.give(0, 1, 999);
        z.plan(0, 1);
        z.plan(0, 1);
        due("behind the second ROW", z.ends(0, 0), 999);
        z.tell(2, 1, 0, 0);
        z.tell(2, 1, 1, 1);
        z.plan(2, 0);
        z.plan(1, 1);
        due("0 times 999, and 1 more", z.ends(0, 1), 1);
    }

    @Sentence(promise = 30, says = "numbers of SORTS beyond SIZE are not asked for (NONE), are not changed by a PLAN, by PUT TOGETHER, and do not count;")
    static void endsBeyondSize() {
        FusionRules x = made(1, 5, 0);
        element(x, 0, "a+2d+3e");
        x.set(1, 3);
        x.plan(0, 1);
        x.plan(1, 2);
        x.plan(1, 3);
        x.plan(2, 2);
        due("a", x.ends(0, 0), 0);
        due("b", x.ends(0, 1), 2);
        due("c", x.ends(0, 2), 2);
        due("d", x.ends(0, 3), NONE);
        x.set(1, 5);
        text("nothing is done", row(x, 0), "1 0 0 2 3");
        due("all five: e by b is a", x.ends(0, 0), 6);
        due("one more of d", x.ends(0, 3), 2);
    }

    // ---- 31: write

    @Sentence(promise = 31, says = "THE PAPER becomes an ELEMENT WRITTEN: how many bytes. NONE.")
    static void writeNone() {
        FusionRules x = made(0, 2, 0);
        x.give(3, 1, 12);
        due("the last ELEMENT", x.write(3), 3);
        due("4", x.write(4), NONE);
        due("-1", x.write(-1), NONE);
        for (int odd : ODD) {
            due("write " + odd, x.write(odd), NONE);
        }
        due("THE PAPER stays", x.count(3), 3);
        due("THE PAPER stays", x.paper(0), '1');
        due("THE PAPER stays", x.paper(2), 'b');
        due("the first ELEMENT", x.write(0), 1);
    }

    @Sentence(promise = 31, says = "the number (no 1), the letter; 0 alone, if there are none.")
    static void writeNumbers() {
        FusionRules x = made(0, 5, 0);
        text("none", written(x, 0), "0");
        int[] numbers = {1, 2, 9, 10, 11, 19, 20, 99, 100, 101, 110, 111, 200, 909, 990, 999};
        for (int number : numbers) {
            x.give(1, 4, number);
            text("the number", written(x, 1), (number == 1 ? "" : "" + number) + "e");
        }
        x.give(1, 4, 0);
        text("none again", written(x, 1), "0");
    }

    @Sentence(promise = 31, says = "WRITTEN is an ELEMENT: TERMS of all SORTS there are of which it has any, in order, with + between")
    static void writeSorts() {
        FusionRules x = made(0, 5, 0);
        String[] texts = {"a", "e", "a+e", "b+d", "a+b+c+d+e", "999a+999b+999c+999d+999e", "10c+d"};
        for (String told : texts) {
            element(x, 2, told);
            text("written", written(x, 2), told);
            due("bytes", x.write(2), told.length());
        }
        element(x, 2, "999e+d+2b+2b");
        text("in order", written(x, 2), "4b+d+999e");
        x.set(1, 4);
        text("beyond SIZE", written(x, 2), "4b+d");
        x.set(1, 3);
        text("beyond SIZE", written(x, 2), "4b");
        x.set(1, 1);
        text("beyond SIZE", written(x, 2), "0");
    }

    // ---- 32: paper

    @Sentence(promise = 32, says = "Byte i of THE PAPER. NONE.")
    static void paperNone() {
        FusionRules x = made(0, 5, 0);
        element(x, 0, "999a+999b+999c+999d+999e");
        due("nothing yet", x.paper(0), NONE);
        due("the longest one", x.write(0), 24);
        due("the first byte", x.paper(0), '9');
        due("the last byte", x.paper(23), 'e');
        due("behind it", x.paper(24), NONE);
        due("-1", x.paper(-1), NONE);
        for (int odd : ODD) {
            due("paper " + odd, x.paper(odd), NONE);
        }
    }

    @Sentence(promise = 32, says = "THE PAPER holds the latest one (nothing at first).")
    static void paperOfTheLatest() {
        FusionRules x = made(0, 2, 0);
        due("at first", x.paper(0), NONE);
        x.give(0, 1, 999);
        x.write(0);
        due("byte 3", x.paper(3), 'b');
        x.write(1);
        due("the latest one", x.paper(0), '0');
        due("of the one ahead nothing", x.paper(1), NONE);
        due("of the one ahead nothing", x.paper(3), NONE);
        x.give(1, 0, 5);
        due("it stays as it was written", x.paper(0), '0');
    }

    // ---- 33: judge

    @Sentence(promise = 33, says = "JUDGED. NONE: list, SORTS; NOTHING.")
    static void judgeNone() {
        for (int size = 1; size <= 5; size++) {
            FusionRules x = made(1, size, 0);
            for (int round = 0; round < 2; round++) {
                due("list 4", x.judge(4, 0, 0), NONE);
                due("list -1", x.judge(-1, 0, 0), NONE);
                due("i beyond", x.judge(3, size, 0), NONE);
                due("j beyond", x.judge(3, 0, size), NONE);
                due("i -1", x.judge(3, -1, 0), NONE);
                due("j -1", x.judge(3, 0, -1), NONE);
                for (int odd : ODD) {
                    due("list " + odd, x.judge(odd, 0, 0), NONE);
                    due("i " + odd, x.judge(3, odd, 0), NONE);
                    due("j " + odd, x.judge(3, 0, odd), NONE);
                }
                due("the last ones", x.judge(3, size - 1, size - 1), round == 0 ? NOTHING : NOT);
                due("the first one", x.judge(0, 0, 0), NOTHING);
                x.list(3, 0);
            }
        }
    }

    @Sentence(promise = 33, says = "the first place that is otherwise; -5: none.")
    static void judgePlaces() {
        FusionRules x = made(0, 5, 0);
        for (int k = 0; k < 5; k++) {
            x.tell(4, 3, k, 9 - k);
        }
        x.list(0, 5);
        for (int k = 0; k < 5; k++) {
            due("place " + k, x.judge(0, 4, 3), k);
            x.put(0, k, 9 - k);
        }
        due("none", x.judge(0, 4, 3), NOT);
        due("i and j in order", x.judge(0, 3, 4), 0);
        long[] wrong = {10, 8, -9, 9L + (1L << 32), Long.MIN_VALUE, Long.MAX_VALUE};
        for (long v : wrong) {
            x.put(0, 0, v);
            due("otherwise", x.judge(0, 4, 3), 0);
        }
        x.put(0, 4, 6);
        due("the first one of two", x.judge(0, 4, 3), 0);
        x.put(0, 0, 9);
        due("the last place", x.judge(0, 4, 3), 4);
        x.list(1, 0);
        due("no places, so none is otherwise", x.judge(1, 4, 3), NOT);
        x.list(1, 2);
        x.put(1, 0, 9);
        x.put(1, 1, 8);
        due("none of the places it has", x.judge(1, 4, 3), NOT);
    }

    @Sentence(promise = 33, says = "JUDGED: a LIST tells OFTEN of SORTS 0, 1, 2, .. in what i and j give (0 beyond SIZE)")
    static void judgeBeyondSize() {
        FusionRules x = made(0, 5, 0);
        x.tell(1, 1, 4, 3);
        x.list(2, 12);
        due("place 4", x.judge(2, 1, 1), 4);
        x.put(2, 4, 3);
        due("none", x.judge(2, 1, 1), NOT);
        x.set(1, 4);
        due("beyond SIZE it is 0", x.judge(2, 1, 1), 4);
        x.put(2, 4, 0);
        due("none", x.judge(2, 1, 1), NOT);
        x.put(2, 11, 1);
        due("the last place", x.judge(2, 1, 1), 11);
        x.put(2, 5, -1);
        due("the first place behind all SORTS", x.judge(2, 1, 1), 5);
    }

    // ---- 34: list

    @Sentence(promise = 34, says = "A LIST becomes a row of n longs, all 0: 1. NONE: list; BAD: n above 12; BELOW.")
    static void listNoneBadBelow() {
        FusionRules x = new FusionRules();
        for (int list = 0; list < 4; list++) {
            due("12", x.list(list, 12), 1);
            due("the last place", x.get(list, 11), 0);
            due("behind it", x.get(list, 12), NO);
            due("0", x.list(list, 0), 1);
            due("no place", x.get(list, 0), NO);
            due("1", x.list(list, 1), 1);
            due("13", x.list(list, 13), BAD);
            due("-1", x.list(list, -1), BELOW);
            due("it stays", x.get(list, 0), 0);
            due("it stays", x.get(list, 1), NO);
        }
        due("4", x.list(4, 1), NONE);
        due("-1", x.list(-1, 1), NONE);
        due("NONE ahead of BAD", x.list(4, 13), NONE);
        due("NONE ahead of BELOW", x.list(-1, -1), NONE);
        for (int odd : ODD) {
            due("list " + odd, x.list(odd, 1), NONE);
            due("n " + odd, x.list(0, odd), odd > 0 ? BAD : BELOW);
        }
    }

    @Sentence(promise = 34, says = "LISTS 0 .. 3 hold nothing (at first) or a row of 0 .. 12 longs.")
    static void listAgain() {
        FusionRules x = new FusionRules();
        x.list(1, 12);
        for (int i = 0; i < 12; i++) {
            due("put", x.put(1, i, 100 + i), 1);
        }
        due("again", x.list(1, 12), 1);
        for (int i = 0; i < 12; i++) {
            due("all 0", x.get(1, i), 0);
            x.put(1, i, 200 + i);
        }
        due("shorter", x.list(1, 0), 1);
        due("a row of none is not nothing", x.put(1, 0, 1), BEYOND);
        due("longer", x.list(1, 12), 1);
        for (int i = 0; i < 12; i++) {
            due("all 0", x.get(1, i), 0);
        }
        due("another one holds nothing", x.put(0, 0, 1), NOTHING);
        due("another one holds nothing", x.put(2, 0, 1), NOTHING);
    }

    // ---- 35: put

    @Sentence(promise = 35, says = "Place i of a LIST becomes v: 1. NONE; NOTHING; BEYOND.")
    static void putNoneNothingBeyond() {
        FusionRules x = new FusionRules();
        due("NOTHING", x.put(3, 0, 1), NOTHING);
        due("NOTHING ahead of BEYOND", x.put(3, 12, 1), NOTHING);
        due("NOTHING ahead of BEYOND", x.put(3, -1, 1), NOTHING);
        due("NONE ahead of NOTHING", x.put(4, 0, 1), NONE);
        due("NONE ahead of BEYOND", x.put(-1, -1, 1), NONE);
        x.list(3, 0);
        due("no place", x.put(3, 0, 1), BEYOND);
        x.list(3, 12);
        due("the last place", x.put(3, 11, 1), 1);
        due("behind it", x.put(3, 12, 1), BEYOND);
        x.list(3, 2);
        due("the last place of two", x.put(3, 1, 1), 1);
        due("behind it", x.put(3, 2, 1), BEYOND);
        due("-1", x.put(3, -1, 1), BEYOND);
        for (int odd : ODD) {
            due("list " + odd, x.put(odd, 0, 1), NONE);
            due("place " + odd, x.put(3, odd, 1), BEYOND);
        }
    }

    @Sentence(promise = 35, says = "int put(int list, int i, long v)")
    static void putLongs() {
        FusionRules x = new FusionRules();
        long[] longs = {Long.MAX_VALUE, Long.MIN_VALUE, -1, 0, 1L << 32, Integer.MIN_VALUE - 1L};
        for (int list = 0; list < 4; list++) {
            x.list(list, 12);
        }
        for (int list = 0; list < 4; list++) {
            for (int i = 0; i < longs.length; i++) {
                due("put", x.put(list, i, longs[(i + list) % longs.length]), 1);
                due("put", x.put(list, 11 - i, 10 * list + i), 1);
            }
        }
        for (int list = 0; list < 4; list++) {
            for (int i = 0; i < longs.length; i++) {
                due("get", x.get(list, i), longs[(i + list) % longs.length]);
                due("get", x.get(list, 11 - i), 10 * list + i);
            }
        }
    }

    // ---- 36: get

    @Sentence(promise = 36, says = "Place i of a LIST. NO: no such LIST, nothing there, no such place.")
    static void getNo() {
        FusionRules x = new FusionRules();
        due("nothing there", x.get(3, 0), NO);
        due("nothing there", x.get(3, -11), NO);
        x.list(3, 0);
        due("no place at all", x.get(3, 0), NO);
        x.list(3, 12);
        x.put(3, 11, -7);
        due("the first place", x.get(3, 0), 0);
        due("the last place", x.get(3, 11), -7);
        due("behind it", x.get(3, 12), NO);
        due("-1", x.get(3, -1), NO);
        due("list 4", x.get(4, 0), NO);
        due("list -1", x.get(-1, 0), NO);
        for (int odd : ODD) {
            due("list " + odd, x.get(odd, 0), NO);
            due("place " + odd, x.get(3, odd), NO);
        }
        x.list(3, 3);
        due("a shorter one", x.get(3, 3), NO);
        due("a shorter one", x.get(3, 11), NO);
    }

    // ---- 37: image

    @Sentence(promise = 37, says = "THE IMAGE is taken: SIZE.")
    static void imageOfEachSize() {
        FusionRules x = new FusionRules();
        due("at first", x.image(), 2);
        for (int size = 1; size <= 5; size++) {
            x.set(1, size);
            due("SIZE", x.image(), size);
            due("SIZE stays", x.of(1), size);
        }
        x.set(1, 1);
        due("the latest one", x.undo(), 5);
    }

    @Sentence(promise = 37, says = "THE IMAGE: KIND, SIZE, FIGURE, THE TABLE, ELEMENTS, both TABLES, the PLAN (not LISTS, THE TAPE, THE PAPER).")
    static void imageOfAll() {
        FusionRules x = Whole.made();
        String ahead = Whole.held(x);
        FusionRules y = Whole.made();
        due("taken", y.image(), 3);
        y.set(0, 4);
        y.set(1, 5);
        y.set(2, 1);
        y.tell(4, 4, 4, 1);
        y.tell(1, 1, 0, 7);
        y.give(0, 0, 555);
        y.give(3, 4, 555);
        y.table(0, 0, 19);
        y.table(4, 4, 19);
        y.twist(0, 19);
        y.twist(4, 19);
        y.plan(-1, 0);
        y.plan(1, 0);
        due("back again", y.undo(), 3);
        text("all is as it was", Whole.held(y), ahead);
    }

    // ---- 38: undo

    @Sentence(promise = 38, says = "All is as THE IMAGE: SIZE. STATE: there is none.")
    static void undoState() {
        FusionRules x = made(1, 3, 2);
        due("none", x.undo(), STATE);
        due("nothing changes", x.of(1), 3);
        due("nothing changes", x.of(0), 1);
        x.image();
        due("at once", x.undo(), 3);
        for (int round = 0; round < 3; round++) {
            x.set(1, 5);
            x.plan(2, 2);
            due("again and again", x.undo(), 3);
            due("SIZE", x.of(1), 3);
            due("no ROWS", x.count(4), 0);
        }
    }

    @Sentence(promise = 38, says = "(not LISTS, THE TAPE, THE PAPER)")
    static void undoLeavesOthers() {
        FusionRules x = made(0, 2, 0);
        x.give(0, 0, 12);
        x.list(0, 2);
        x.put(0, 1, 5);
        x.write(0);
        feed(x, "2b+");
        x.image();
        x.put(0, 1, 6);
        x.list(1, 12);
        x.list(0, 1);
        x.give(0, 0, 0);
        x.write(0);
        x.feed('a');
        due("undo", x.undo(), 2);
        due("LIST 0 stays", x.get(0, 0), 0);
        due("LIST 0 stays", x.get(0, 1), NO);
        due("LIST 1 stays", x.get(1, 11), 0);
        due("THE PAPER stays", x.count(3), 1);
        due("THE PAPER stays", x.paper(0), '0');
        due("THE TAPE stays", x.count(2), 4);
        due("THE TAPE stays", x.element(1), 2);
        due("the ELEMENT is as it was", x.has(0, 0), 12);
    }

    @Sentence(promise = 38, says = "All is as THE IMAGE: SIZE.")
    static void undoWhatIsReckoned() {
        FusionRules x = made(1, 3, 0);
        due("CHARACTERS", x.character(-1, 0), 3);
        x.image();
        x.set(1, 5);
        due("CHARACTERS", x.character(-1, 0), 5);
        due("often", x.often(2, 2, 4), 1);
        x.undo();
        due("CHARACTERS", x.character(-1, 0), 3);
        due("often", x.often(2, 2, 1), 1);
        x.set(0, 0);
        due("CHARACTERS", x.character(-1, 0), 1);
        x.tell(1, 1, 1, 1);
        due("CHARACTERS", x.character(-1, 0), 2);
        rules(x, "c*c=c");
        due("CHARACTERS", x.character(-1, 0), 3);
        x.set(2, 9);
        x.set(0, 4);
        due("often", x.often(2, 2, 2), 9);
        x.set(2, 8);
        due("often", x.often(2, 2, 2), 8);
    }

    // ---- 39: count

    @Sentence(promise = 39, says = "How many: 0 numbers of THE TABLE that are not 0")
    static void countTable() {
        FusionRules x = made(0, 1, 0);
        due("none", x.count(0), 0);
        x.tell(1, 1, 0, 1);
        x.tell(4, 4, 4, 9);
        due("the first and the last one", x.count(0), 2);
        x.tell(4, 4, 4, 1);
        due("another number", x.count(0), 2);
        x.tell(4, 4, 4, 0);
        due("0 again", x.count(0), 1);
        x.set(0, 4);
        due("by any KIND", x.count(0), 1);
        for (int place = 0; place < 80; place++) {
            x.tell(1 + place / 20, 1 + place / 5 % 4, place % 5, 1);
        }
        due("all", x.count(0), 80);
    }

    @Sentence(promise = 39, says = "1 of ELEMENTS (of all five SORTS) that are not 0")
    static void countElements() {
        FusionRules x = made(0, 5, 0);
        due("none", x.count(1), 0);
        x.give(0, 0, 1);
        x.give(3, 4, 999);
        due("the first and the last one", x.count(1), 2);
        x.set(1, 1);
        due("of all five SORTS", x.count(1), 2);
        x.set(1, 5);
        for (int place = 0; place < 20; place++) {
            x.give(place / 5, place % 5, 2);
        }
        due("all", x.count(1), 20);
        x.give(3, 4, 0);
        due("0 again", x.count(1), 19);
    }

    @Sentence(promise = 39, says = "2 bytes on THE TAPE, 3 of THE PAPER, 4 ROWS of the PLAN.")
    static void countBytes() {
        FusionRules x = made(0, 5, 0);
        for (int what = 2; what <= 4; what++) {
            due("none", x.count(what), 0);
        }
        for (int i = 1; i <= 61; i++) {
            x.feed('a');
            due("THE TAPE", x.count(2), Math.min(i, 60));
        }
        for (int i = 1; i <= 9; i++) {
            x.plan(2, 1);
            due("ROWS", x.count(4), Math.min(i, 8));
        }
        x.write(0);
        due("THE PAPER of 0", x.count(3), 1);
        for (int k = 0; k < 5; k++) {
            x.give(0, k, 999);
            x.write(0);
            due("THE PAPER", x.count(3), 5 * k + 4);
        }
    }

    @Sentence(promise = 39, says = "4 ROWS of the PLAN. BAD.")
    static void countBad() {
        FusionRules x = new FusionRules();
        due("5", x.count(5), BAD);
        due("-1", x.count(-1), BAD);
        for (int odd : ODD) {
            due("count " + odd, x.count(odd), BAD);
        }
    }
}
