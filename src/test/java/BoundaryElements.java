/** The boundary cases of promises 12 to 17: elements, sets. */
final class BoundaryElements extends Runs {
    private BoundaryElements() {
    }

    // ---- 12: has

    @Sentence(promise = 12, says = "The number of a SORT in an ELEMENT. NONE: element, SORT.")
    static void hasNone() {
        for (int size = 1; size <= 5; size++) {
            FusionRules x = made(0, size, 0);
            x.give(0, 0, 999);
            x.give(3, size - 1, 998);
            due("the first one", x.has(0, 0), 999);
            due("the last one", x.has(3, size - 1), 998);
            due("element 4", x.has(4, 0), NONE);
            due("element -1", x.has(-1, 0), NONE);
            due("SORT " + size, x.has(0, size), NONE);
            due("SORT -1", x.has(0, -1), NONE);
            for (int odd : ODD) {
                due("element " + odd, x.has(odd, 0), NONE);
                due("SORT " + odd, x.has(0, odd), NONE);
            }
        }
    }

    @Sentence(promise = 12, says = "numbers of SORTS beyond SIZE are not asked for (NONE)")
    static void hasBeyondSize() {
        FusionRules x = made(0, 5, 0);
        x.give(2, 4, 7);
        x.set(1, 4);
        due("beyond SIZE", x.has(2, 4), NONE);
        x.set(1, 5);
        due("within", x.has(2, 4), 7);
    }

    // ---- 13: give

    @Sentence(promise = 13, says = "The number of a SORT in an ELEMENT becomes v: what it was.")
    static void giveEdges() {
        FusionRules x = made(0, 5, 0);
        for (int element = 0; element < 4; element++) {
            for (int sort = 0; sort < 5; sort++) {
                due("at first", x.give(element, sort, 999), 0);
                due("most", x.give(element, sort, 0), 999);
                due("least", x.give(element, sort, 10 * element + sort + 1), 0);
            }
        }
        due("all 20", x.count(1), 20);
        text("one of them", row(x, 3), "31 32 33 34 35");
        text("another", row(x, 0), "1 2 3 4 5");
    }

    @Sentence(promise = 13, says = "NONE: element, SORT; BAD.")
    static void giveNone() {
        for (int size = 1; size <= 5; size++) {
            FusionRules x = made(0, size, 0);
            int[][] none = {{4, 0}, {-1, 0}, {0, size}, {0, -1}, {4, size}};
            for (int[] at : none) {
                due("NONE", x.give(at[0], at[1], 1), NONE);
                due("NONE ahead of BAD", x.give(at[0], at[1], 1000), NONE);
                due("NONE ahead of BAD", x.give(at[0], at[1], -1), NONE);
            }
            for (int odd : ODD) {
                due("element " + odd, x.give(odd, 0, 1), NONE);
                due("SORT " + odd, x.give(0, odd, 1), NONE);
                due("v " + odd, x.give(0, 0, odd), BAD);
            }
            due("v 1000", x.give(3, size - 1, 1000), BAD);
            due("v -1", x.give(3, size - 1, -1), BAD);
            due("nothing is given", x.count(1), 0);
        }
    }

    // ---- 14: together

    @Sentence(promise = 14, says = "The one becomes both PUT TOGETHER (also with itself)")
    static void togetherWithItself() {
        FusionRules x = made(4, 2, 1);
        element(x, 3, "2a+3b");
        // 4 and 9 of ONE; 6, 6 and 9 of T
        due("itself", x.together(3, 3), 34);
        text("itself", row(x, 3), "13 21");
        element(x, 0, "2b");
        due("another", x.together(3, 0), 42 + 26 + 42);
        text("the one", row(x, 3), "42 68");
        text("the other one", row(x, 0), "0 2");
    }

    @Sentence(promise = 14, says = "PUT TOGETHER are two ELEMENTS: for each k the sum of both numbers times OFTEN.")
    static void togetherSums() {
        FusionRules x = told(3, "b*b=9a+2c;b*c=9b;c*c=a+9c");
        element(x, 0, "a+2b+3c");
        element(x, 1, "4a+5b");
        // 4 + 10 times 9; 5 + 8 + 15 times 9; 12 + 10 times 2
        due("together", x.together(0, 1), 94 + 148 + 32);
        text("the one", row(x, 0), "94 148 32");
        text("the other one", row(x, 1), "4 5 0");
        element(x, 2, "a");
        due("by ONE", x.together(0, 2), 94 + 148 + 32);
        text("the one", row(x, 0), "94 148 32");
        due("ONE first", x.together(2, 1), 9);
        text("the other one", row(x, 2), "4 5 0");
    }

    @Sentence(promise = 14, says = "all its numbers (of SORTS there are) together.")
    static void togetherOfSortsThereAre() {
        FusionRules x = made(1, 5, 0);
        element(x, 0, "a+9d+900e");
        element(x, 1, "2a+b+9d+900e");
        x.set(1, 3);
        due("together", x.together(0, 1), 3);
        x.set(1, 5);
        text("those beyond stay, and do not count", row(x, 0), "2 1 0 9 900");
        text("the other one", row(x, 1), "2 1 0 9 900");
        due("by nothing", x.together(0, 2), 0);
        text("nothing", row(x, 0), "0 0 0 0 0");
        due("nothing by nothing", x.together(2, 3), 0);
    }

    @Sentence(promise = 14, says = "NONE; STATE: a number would be above 999.")
    static void togetherAboveMost() {
        FusionRules x = made(1, 5, 0);
        for (int k = 0; k < 5; k++) {
            element(x, 0, "999" + (char) ('a' + k));
            element(x, 1, "a");
            due("999 of SORT " + k, x.together(0, 1), 999);
            x.give(0, k, 500);
            x.give(1, 0, 2);
            due("1000 of SORT " + k, x.together(0, 1), STATE);
            due("nothing changes", x.has(0, k), 500);
            due("1000 of SORT " + k, x.together(1, 0), STATE);
            due("nothing changes", x.has(1, 0), 2);
        }
        element(x, 0, "300a+300b+300c+300d+300e");
        element(x, 1, "3a");
        due("above 999 together, none of them alone", x.together(0, 1), 4500);
        element(x, 2, "999a+999b+999c+999d+999e");
        due("millions", x.together(2, 2), STATE);
        text("nothing changes", row(x, 2), "999 999 999 999 999");
        FusionRules y = made(0, 5, 0);
        for (int place = 0; place < 80; place++) {
            y.tell(1 + place / 20, 1 + place / 5 % 4, place % 5, 9);
        }
        element(y, 0, "999a+999b+999c+999d+999e");
        due("the most there can be", y.together(0, 0), STATE);
        y.set(1, 1);
        y.give(0, 0, 31);
        due("961", y.together(0, 0), 961);
        y.give(0, 0, 32);
        due("1024", y.together(0, 0), STATE);
    }

    @Sentence(promise = 14, says = "NONE; STATE: a number would be above 999.")
    static void togetherNone() {
        FusionRules x = made(0, 2, 0);
        element(x, 0, "999a");
        element(x, 3, "999a");
        due("the last ones", x.together(3, 2), 0);
        element(x, 3, "999a");
        due("one 4", x.together(4, 0), NONE);
        due("other 4", x.together(0, 4), NONE);
        due("one -1", x.together(-1, 0), NONE);
        due("other -1", x.together(0, -1), NONE);
        for (int odd : ODD) {
            due("one " + odd, x.together(odd, 0), NONE);
            due("other " + odd, x.together(0, odd), NONE);
        }
        due("STATE", x.together(0, 3), STATE);
    }

    @Sentence(promise = 14, says = "What is PUT TOGETHER: the one (the ELEMENT) first, the other one (the SORT) second.")
    static void togetherInOrder() {
        FusionRules x = made(0, 3, 0);
        x.tell(1, 2, 0, 5);
        x.tell(2, 1, 2, 7);
        element(x, 0, "b");
        element(x, 1, "c");
        due("b and c", x.together(0, 1), 5);
        text("b and c", row(x, 0), "5 0 0");
        element(x, 0, "b");
        due("c and b", x.together(1, 0), 7);
        text("c and b", row(x, 1), "0 0 7");
    }

    // ---- 15: closed

    @Sentence(promise = 15, says = "Whether a set is CLOSED (1, 0). BAD: it has bits of none.")
    static void closedBad() {
        for (int size = 1; size <= 5; size++) {
            FusionRules x = made(0, size, 0);
            due("no bits", x.closed(0), 0);
            due("ONE", x.closed(1), 1);
            due("all", x.closed((1 << size) - 1), 1);
            due("one bit beyond", x.closed(1 << size), BAD);
            due("one bit beyond and ONE", x.closed(1 << size | 1), BAD);
            due("bit 31", x.closed(1 << 31 | 1), BAD);
            due("-1", x.closed(-1), BAD);
            for (int odd : ODD) {
                due("closed " + odd, x.closed(odd), BAD);
            }
        }
    }

    @Sentence(promise = 15, says = "A set of SORTS (bits) is CLOSED, if ONE is in it, and all that any two of it give.")
    static void closedByAnyTwo() {
        FusionRules x = made(0, 5, 0);
        for (int set = 0; set < 32; set++) {
            due("with ONE or without", x.closed(set), set & 1);
        }
        x.tell(4, 4, 3, 1);
        due("the last one with itself gives another", x.closed(17), 0);
        due("with what it gives", x.closed(25), 1);
        due("without it", x.closed(7), 1);
        x.tell(4, 3, 4, 1);
        due("in it already", x.closed(25), 1);
        x.tell(4, 3, 1, 1);
        due("in that order", x.closed(25), 0);
        x.tell(4, 3, 1, 0);
        x.tell(3, 4, 2, 9);
        due("in the other order", x.closed(25), 0);
        due("with that, too", x.closed(29), 1);
        x.set(1, 4);
        due("beyond SIZE it does not count", x.closed(9), 1);
    }

    // ---- 16: closedSet

    @Sentence(promise = 16, says = "CLOSED sets, rising as bits: i -1 how many, else the i-th.")
    static void closedSetsInOrder() {
        for (int size = 1; size <= 5; size++) {
            FusionRules x = made(0, size, 0);
            int many = 1 << size - 1;
            due("how many", x.closedSet(-1), many);
            for (int i = 0; i < many; i++) {
                due("set " + i, x.closedSet(i), 2 * i + 1);
            }
        }
        FusionRules y = made(1, 5, 0);
        due("two alone", y.closedSet(-1), 2);
        due("ONE", y.closedSet(0), 1);
        due("all", y.closedSet(1), 31);
    }

    @Sentence(promise = 16, says = "NOT: there are not so many (i below -1, too).")
    static void closedSetNot() {
        for (int size = 1; size <= 5; size++) {
            FusionRules x = made(0, size, 0);
            int many = 1 << size - 1;
            due("the last one", x.closedSet(many - 1), 2 * many - 1);
            due("one beyond", x.closedSet(many), NOT);
            due("-2", x.closedSet(-2), NOT);
            for (int odd : ODD) {
                due("closedSet " + odd, x.closedSet(odd), NOT);
            }
        }
    }

    // ---- 17: hull

    @Sentence(promise = 17, says = "HULL (bits). BAD: it has bits of none.")
    static void hullBad() {
        for (int size = 1; size <= 5; size++) {
            FusionRules x = made(0, size, 0);
            due("all", x.hull((1 << size) - 1), (1 << size) - 1);
            due("one bit beyond", x.hull(1 << size), BAD);
            due("one bit beyond and ONE", x.hull(1 << size | 1), BAD);
            due("bit 31", x.hull(1 << 31), BAD);
            due("-1", x.hull(-1), BAD);
            for (int odd : ODD) {
                due("hull " + odd, x.hull(odd), BAD);
            }
        }
    }

    @Sentence(promise = 17, says = "HULL of a set: the least CLOSED one that has all of it.")
    static void hullEdges() {
        FusionRules x = made(0, 5, 0);
        due("of no bits: ONE", x.hull(0), 1);
        due("of ONE", x.hull(1), 1);
        due("ONE comes to it", x.hull(30), 31);
        for (int set = 0; set < 32; set++) {
            due("no more than ONE", x.hull(set), set | 1);
        }
        x.tell(4, 4, 3, 1);
        x.tell(3, 3, 2, 1);
        x.tell(2, 2, 1, 1);
        due("step by step", x.hull(16), 31);
        due("the last step", x.hull(4), 7);
        due("nothing comes of it", x.hull(2), 3);
        x.set(1, 4);
        due("three steps", x.hull(8), 15);
        FusionRules y = made(0, 5, 0);
        y.tell(3, 1, 4, 1);
        due("not by one of them", y.hull(8), 9);
        due("in either order", y.hull(10), 27);
        for (int kind = 1; kind <= 4; kind++) {
            due("SIZE 1", made(kind, 1, 9).hull(0), 1);
        }
        due("CYCLE", made(1, 5, 0).hull(16), 31);
        due("HOUSE without T", made(3, 5, 0).hull(4), 5);
        due("HOUSE with T", made(3, 5, 0).hull(16), 31);
    }
}
