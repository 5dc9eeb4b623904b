/** For each promise of the document: ordinary inputs, the edges that it names, wrong inputs. */
public final class PromiseTest extends Runs {
    private PromiseTest() {
    }

    private static void promise1() {
        FusionRules x = new FusionRules();
        due("new of(0)", x.of(0), 0);
        due("new of(1)", x.of(1), 2);
        due("new of(2)", x.of(2), 0);
        for (int what = 0; what <= 4; what++) {
            due("new count(" + what + ")", x.count(what), 0);
        }
        due("new undo", x.undo(), -3);
        due("new paper", x.paper(0), -1);
        due("new get", x.get(0, 0), NO);
        due("new has", x.has(3, 1), 0);
        due("new table", x.table(4, 4, 0), 0);
        due("new twist", x.twist(4, 0), 0);
        due("new often", x.often(1, 1, 1), 0);
    }

    private static void promise2() {
        FusionRules x = new FusionRules();
        int[] least = {0, 1, 0};
        int[] most = {4, 5, 9};
        int[] first = {0, 2, 0};
        for (int what = 0; what < 3; what++) {
            due("set most", x.set(what, most[what]), first[what]);
            due("set least", x.set(what, least[what]), most[what]);
            due("set above", x.set(what, most[what] + 1), -2);
            due("set below", x.set(what, least[what] - 1), -2);
            due("set changed nothing", x.of(what), least[what]);
        }
        due("set(3)", x.set(3, 0), -1);
        due("set(-1)", x.set(-1, 99), -1);
        FusionRules y = made(0, 5, 0);
        y.tell(4, 4, 4, 7);
        y.give(0, 4, 8);
        y.set(1, 2);
        due("often beyond", y.often(4, 4, 4), -1);
        y.set(1, 5);
        due("told stays", y.often(4, 4, 4), 7);
        due("given stays", y.has(0, 4), 8);
    }

    private static void promise3() {
        FusionRules x = made(4, 3, 6);
        due("of(0)", x.of(0), 4);
        due("of(1)", x.of(1), 3);
        due("of(2)", x.of(2), 6);
        due("of(3)", x.of(3), -1);
        due("of(-1)", x.of(-1), -1);
    }

    private static void promise4() {
        FusionRules x = new FusionRules();
        due("tell", x.tell(1, 1, 0, 3), 0);
        due("tell again", x.tell(1, 1, 0, 9), 3);
        due("tell 0", x.tell(1, 1, 0, 0), 9);
        due("tell beyond SIZE", x.tell(4, 3, 4, 5), 0);
        due("tell beyond SIZE again", x.tell(4, 3, 4, 1), 5);
        due("tell i 0", x.tell(0, 1, 0, 1), -1);
        due("tell j 0", x.tell(1, 0, 0, 1), -1);
        due("tell i 5", x.tell(5, 1, 0, 1), -1);
        due("tell j 5", x.tell(1, 5, 0, 1), -1);
        due("tell k 5", x.tell(1, 1, 5, 1), -1);
        due("tell k -1", x.tell(1, 1, -1, 1), -1);
        due("tell NONE ahead of BAD", x.tell(5, 1, 0, 10), -1);
        due("tell v 10", x.tell(1, 1, 0, 10), -2);
        due("tell v -1", x.tell(1, 1, 0, -1), -2);
        x.tell(1, 1, 1, 4);
        due("told one way", x.often(1, 1, 1), 4);
        FusionRules y = made(0, 3, 0);
        y.tell(1, 2, 0, 6);
        due("told first", y.often(1, 2, 0), 6);
        due("not told second", y.often(2, 1, 0), 0);
    }

    private static void promise5() {
        FusionRules x = new FusionRules();
        due("feed 0", x.feed(0), -2);
        due("feed 128", x.feed(128), -2);
        due("feed -1", x.feed(-1), -2);
        due("feed 1", x.feed(1), 1);
        due("feed 127", x.feed(127), 2);
        for (int i = 3; i <= 60; i++) {
            due("feed", x.feed('a'), i);
        }
        due("feed full", x.feed('a'), -4);
        due("feed BAD ahead of FULL", x.feed(0), -2);
        due("count", x.count(2), 60);
    }

    private static void promise6() {
        FusionRules x = made(0, 3, 0);
        x.tell(1, 2, 4, 8);
        due("two clauses", rules(x, "b*c=2b+c;c*c=0"), 2);
        due("either one first", x.often(1, 2, 1), 2);
        due("the other one first", x.often(2, 1, 1), 2);
        due("once", x.often(2, 1, 2), 1);
        due("not in it", x.often(2, 1, 0), 0);
        x.set(1, 5);
        due("beyond SIZE is 0", x.often(1, 2, 4), 0);
        x.set(1, 3);
        due("tape is empty", x.count(2), 0);
        due("no clause", x.rules(), -100);
        due("adds up", rules(x, "b*b=4a+4a+b"), 1);
        due("8", x.often(1, 1, 0), 8);
        due("9 at most", rules(x, "b*b=9a+9a"), 1);
        due("9", x.often(1, 1, 0), 9);
        due("replaced", x.often(1, 1, 1), 0);
        due("a later clause is the one", rules(x, "b*b=a;b*b=c"), 2);
        due("c", x.often(1, 1, 2), 1);
        due("no a", x.often(1, 1, 0), 0);
        String[] wrong = {"a*b=a", "b*a=a", "b*d=a", "d*b=a", "b*b=d", "b*b=1a", "b*b=2", "b*b=22a", "b*b=a+", "b*b=0a",
            "b*b=00", "b*b=a+0", "b*b=a;", "b*b=a;a", "bb", "b*", "b", "b*b", "b*b=", "b**", "b*b=a a", "B*b=a", "b*b=a;;",
            "b*b=a,", "b*b==", "b*b=2a+2", "b*b=a;c*c=b;c*d=a", " b*b=a", "b*b=-a"};
        int[] fault = {0, 2, 2, 0, 4, 4, 5, 5, 6, 5,
            5, 6, 6, 6, 1, 2, 1, 3, 4, 2, 5, 0, 6,
            5, 4, 8, 14, 0, 4};
        for (int i = 0; i < wrong.length; i++) {
            due("rules " + wrong[i], rules(x, wrong[i]), -100 - fault[i]);
            due("tape is empty behind " + wrong[i], x.count(2), 0);
        }
        due("a FAULT changes nothing", x.often(1, 1, 2), 1);
        due("nothing else", x.count(0), 1 + 4);
        due("SIZE 1 has no letters", rules(made(0, 1, 0), "b*b=a"), -100);
        FusionRules y = made(3, 5, 0);
        due("by any KIND", rules(y, "b*e=9e;e*e=a+b+c+d+e"), 2);
        due("KIND stays", y.of(0), 3);
        due("KIND rules", y.often(1, 4, 4), 1);
        y.set(0, 0);
        due("told", y.often(1, 4, 4), 9);
        StringBuilder longest = new StringBuilder("b*b=");
        while (longest.length() < 59) {
            longest.append("a+");
        }
        due("60 bytes that end too early", rules(x, longest + ""), -160);
    }

    private static void promise7() {
        for (int kind = 0; kind <= 4; kind++) {
            for (int size = 1; size <= 5; size++) {
                FusionRules x = made(kind, size, 3);
                for (int i = 0; i < size; i++) {
                    for (int k = 0; k < size; k++) {
                        due("ONE first", x.often(0, i, k), i == k ? 1 : 0);
                        due("ONE second", x.often(i, 0, k), i == k ? 1 : 0);
                    }
                }
            }
        }
        due("CYCLE", made(1, 5, 0).often(3, 4, 2), 1);
        due("CYCLE else", made(1, 5, 0).often(3, 4, 3), 0);
        due("CYCLE to ONE", made(1, 2, 0).often(1, 1, 0), 1);
        FusionRules ladder = made(2, 4, 0);
        int[] due22 = {1, 0, 1, 0};
        int[] due13 = {0, 0, 1, 0};
        for (int k = 0; k < 4; k++) {
            due("LADDER 2 2", ladder.often(2, 2, k), due22[k]);
            due("LADDER 1 3", ladder.often(1, 3, k), due13[k]);
        }
        due("LADDER 2 3", ladder.often(2, 3, 1), 1);
        due("LADDER 2 3 has a top", ladder.often(2, 3, 3), 0);
        due("LADDER 3 2 has a top", ladder.often(3, 2, 3), 0);
        due("LADDER 3 3 has a top", ladder.often(3, 3, 2), 0);
        due("LADDER 1 2 by twos", ladder.often(1, 2, 2), 0);
        FusionRules house = made(3, 4, 7);
        due("HOUSE T T others", house.often(3, 3, 2), 1);
        due("HOUSE T T T", house.often(3, 3, 3), 0);
        due("HOUSE T other", house.often(3, 1, 3), 1);
        due("HOUSE other T", house.often(1, 3, 3), 1);
        due("HOUSE other T else", house.often(1, 3, 1), 0);
        due("HOUSE others", house.often(2, 2, 1), 1);
        due("HOUSE others never T", house.often(2, 1, 3), 0);
        FusionRules near = made(4, 4, 7);
        due("NEAR T T T", near.often(3, 3, 3), 7);
        due("NEAR T T others", near.often(3, 3, 1), 1);
        due("NEAR else", near.often(1, 3, 3), 1);
        due("NEAR SIZE 1", made(4, 1, 5).often(0, 0, 0), 1);
        due("HOUSE SIZE 2", made(3, 2, 5).often(1, 1, 0), 1);
        due("i", near.often(4, 0, 0), -1);
        due("j", near.often(0, 4, 0), -1);
        due("k", near.often(0, 0, 4), -1);
        due("below", near.often(-1, 0, 0), -1);
    }

    private static void promise8() {
        FusionRules x = made(0, 3, 0);
        x.tell(1, 1, 2, 1);
        x.tell(1, 2, 0, 1);
        // (1 1) 1 = 2 1 = nothing; 1 (1 1) = 1 2 = ONE
        due("CLASH", x.clash(0), 1110);
        due("UNLIKE", x.clash(1), 12);
        x.tell(2, 1, 0, 1);
        due("no UNLIKE", x.clash(1), -5);
        // (1 1) 2 = 2 2 = nothing; 1 (1 2) = 1
        due("the next CLASH", x.clash(0), 1121);
        x.tell(2, 2, 1, 1);
        due("no CLASH", x.clash(0), -5);
        due("what 2", x.clash(2), -1);
        due("what -1", x.clash(-1), -1);
        FusionRules y = made(0, 5, 0);
        y.tell(4, 3, 4, 1);
        due("UNLIKE 3 4", y.clash(1), 34);
        y.set(1, 4);
        due("beyond SIZE does not count", y.clash(1), -5);
        FusionRules z = made(0, 5, 0);
        z.tell(4, 4, 4, 2);
        z.tell(4, 4, 3, 2);
        due("last CLASH is seen", z.clash(0), -5);
        z.tell(3, 4, 4, 1);
        // (3 3) 4 = nothing; 3 (3 4) = 3 4 = 4
        due("a CLASH late in the row", z.clash(0), 3344);
    }

    private static void promise9() {
        due("CYCLE", made(1, 5, 0).partner(1), 4);
        due("ONE", made(0, 3, 0).partner(0), 0);
        due("none", made(0, 3, 0).partner(1), -5);
        FusionRules x = made(0, 3, 0);
        x.tell(1, 2, 0, 1);
        due("one way", x.partner(1), 2);
        due("not the other way", x.partner(2), -5);
        x.tell(1, 1, 0, 2);
        due("two", x.partner(1), -5);
        x.tell(1, 2, 0, 0);
        due("twice", x.partner(1), -5);
        x.tell(1, 1, 0, 1);
        due("itself", x.partner(1), 1);
        x.tell(1, 4, 0, 1);
        due("beyond SIZE does not count", x.partner(1), 1);
        due("no SORT", x.partner(3), -1);
        due("below", x.partner(-1), -1);
    }

    private static void promise10() {
        FusionRules x = made(4, 2, 1);
        long[] ones = {1, 0, 1, 1, 2, 3, 5, 8, 13};
        long[] last = {0, 1, 1, 2, 3, 5, 8, 13, 21};
        for (int m = 0; m <= 8; m++) {
            due("power ONE", x.power(1, m, 0), ones[m]);
            due("power T", x.power(1, m, 1), last[m]);
        }
        FusionRules y = made(0, 3, 0);
        y.tell(1, 1, 2, 9);
        y.tell(2, 1, 2, 9);
        y.tell(1, 2, 0, 5);
        due("what is there first", y.power(1, 8, 2), 4782969);
        due("and never behind", y.power(1, 3, 0), 0);
        FusionRules z = made(0, 5, 0);
        for (int s = 1; s <= 4; s++) {
            for (int k = 0; k <= 4; k++) {
                z.tell(s, 1, k, 9);
            }
        }
        // 9 of each; then each next is 9 times the four that are not ONE, and ONE gives one more SORT 1
        long each = 9;
        long sort1 = 9;
        for (int m = 3; m <= 8; m++) {
            long next = 9 * (3 * each + sort1);
            sort1 = next + each;
            each = next;
        }
        due("a long one", z.power(1, 8, 4), each);
        due("a long one of SORT 1", z.power(1, 8, 1), sort1);
        due("i", x.power(2, 1, 0), NO);
        due("k", x.power(0, 1, 2), NO);
        due("m", x.power(0, -1, 0), NO);
        due("m 9", x.power(0, 9, 0), NO);
    }

    private static void promise11() {
        FusionRules x = made(0, 3, 0);
        x.set(1, 5);
        x.give(1, 4, 77);
        x.give(1, 0, 5);
        x.set(1, 3);
        due("terms", element(x, 1, "c+10c+999b"), 3);
        text("element", row(x, 1), "0 999 11");
        x.set(1, 5);
        due("beyond SIZE stays", x.has(1, 4), 77);
        x.set(1, 3);
        due("999 at most", element(x, 1, "999b+b"), 2);
        due("999", x.has(1, 1), 999);
        due("1 is allowed", element(x, 1, "1a+100c"), 2);
        text("element", row(x, 1), "1 0 100");
        feed(x, "b");
        due("no element", x.element(4), -1);
        due("no element below", x.element(-1), -1);
        due("tape stays", x.count(2), 1);
        due("read now", x.element(1), 1);
        due("tape is empty", x.count(2), 0);
        String[] wrong = {"", "d", "0b", "00", "01b", "1000b", "b+", "b+0", "12", "b;", "+b", "b++c", "b c", "bc", "9999", "1", "2b+d", "b*b=a"};
        int[] fault = {0, 0, 1, 1, 1, 3, 2, 2, 2, 1, 0, 2, 1, 1, 3, 1, 3, 1};
        for (int i = 0; i < wrong.length; i++) {
            due("element " + wrong[i], element(x, 1, wrong[i]), -100 - fault[i]);
            due("tape is empty behind " + wrong[i], x.count(2), 0);
        }
        text("a FAULT changes nothing", row(x, 1), "0 1 0");
        due("a SUM of 0", element(x, 1, "0"), 0);
        text("element 0", row(x, 1), "0 0 0");
    }

    private static void promise12() {
        FusionRules x = new FusionRules();
        x.give(3, 1, 6);
        due("has", x.has(3, 1), 6);
        due("has 0", x.has(3, 0), 0);
        due("element", x.has(4, 0), -1);
        due("element below", x.has(-1, 0), -1);
        due("SORT", x.has(0, 2), -1);
        due("SORT below", x.has(0, -1), -1);
    }

    private static void promise13() {
        FusionRules x = new FusionRules();
        due("give", x.give(0, 1, 999), 0);
        due("give 0", x.give(0, 1, 0), 999);
        due("element", x.give(4, 0, 1), -1);
        due("SORT", x.give(0, 2, 1), -1);
        due("NONE ahead of BAD", x.give(0, 2, 1000), -1);
        due("1000", x.give(0, 1, 1000), -2);
        due("below", x.give(0, 1, -1), -2);
        due("BAD changes nothing", x.has(0, 1), 0);
    }

    private static void promise14() {
        FusionRules x = made(4, 3, 2);
        x.set(1, 5);
        x.give(0, 4, 9);
        x.give(0, 3, 9);
        x.set(1, 3);
        element(x, 0, "2a+b+c");
        element(x, 1, "a+3c");
        // T and T: a + b + 2 T; (2a + b + c)(a + 3c) = 2a + b + c + 6c + 3c + 3a + 3b + 6c
        due("together", x.together(0, 1), 25);
        text("the one", row(x, 0), "5 4 16");
        text("the other", row(x, 1), "1 0 3");
        x.set(1, 5);
        due("beyond SIZE stays", x.has(0, 4), 9);
        x.set(1, 3);
        due("with itself", x.together(1, 1), 43);
        text("itself", row(x, 1), "10 9 24");
        // T: 9 times 24, 16 times 19, 2 times 16 times 24, together 1288
        due("T too often", x.together(0, 1), -3);
        x.give(2, 0, 999);
        x.give(3, 0, 1);
        due("999", x.together(2, 3), 999);
        x.give(3, 0, 2);
        due("above 999", x.together(2, 3), -3);
        due("changes nothing", x.has(2, 0), 999);
        due("one", x.together(4, 0), -1);
        due("other", x.together(0, 4), -1);
        due("below", x.together(-1, 0), -1);
        FusionRules y = made(0, 3, 0);
        y.tell(1, 2, 1, 5);
        y.give(0, 1, 1);
        y.give(1, 2, 1);
        due("the one first", y.together(0, 1), 5);
        y.give(0, 1, 1);
        due("the other second", y.together(1, 0), 0);
        FusionRules z = made(0, 5, 0);
        for (int i = 1; i <= 4; i++) {
            for (int j = 1; j <= 4; j++) {
                z.tell(i, j, 4, 9);
            }
        }
        for (int i = 0; i < 5; i++) {
            z.give(0, i, 999);
        }
        due("far too many", z.together(0, 0), -3);
    }

    private static void promise15() {
        FusionRules x = made(1, 4, 0);
        due("ONE", x.closed(1), 1);
        due("nothing", x.closed(0), 0);
        due("0 2", x.closed(5), 1);
        due("0 1", x.closed(3), 0);
        due("all", x.closed(15), 1);
        due("without ONE", x.closed(14), 0);
        due("bits of none", x.closed(16), -2);
        due("below", x.closed(-1), -2);
        FusionRules y = made(0, 3, 0);
        y.tell(1, 1, 2, 1);
        due("gives another one", y.closed(3), 0);
        due("gives nothing", y.closed(5), 1);
        y.tell(1, 1, 2, 0);
        y.tell(1, 1, 4, 1);
        due("beyond SIZE does not count", y.closed(3), 1);
        FusionRules z = made(0, 4, 0);
        z.tell(2, 1, 3, 1);
        due("in either order", z.closed(7), 0);
    }

    private static void promise16() {
        FusionRules x = made(1, 4, 0);
        due("how many", x.closedSet(-1), 3);
        due("0", x.closedSet(0), 1);
        due("1", x.closedSet(1), 5);
        due("2", x.closedSet(2), 15);
        due("3", x.closedSet(3), -5);
        due("below", x.closedSet(-2), -5);
        FusionRules y = made(0, 3, 0);
        due("all that have ONE", y.closedSet(-1), 4);
        due("rising", y.closedSet(2), 5);
        due("SIZE 1", made(2, 1, 0).closedSet(-1), 1);
    }

    private static void promise17() {
        FusionRules x = made(1, 4, 0);
        due("nothing", x.hull(0), 1);
        due("2", x.hull(4), 5);
        due("1", x.hull(2), 15);
        due("3", x.hull(8), 15);
        due("bits of none", x.hull(16), -2);
        due("below", x.hull(-1), -2);
        FusionRules y = made(0, 5, 0);
        y.tell(1, 1, 2, 1);
        y.tell(2, 2, 3, 1);
        y.tell(3, 3, 4, 1);
        due("step by step", y.hull(2), 31);
        due("from 3", y.hull(8), 25);
        FusionRules z = made(0, 3, 0);
        z.tell(2, 1, 2, 1);
        due("SIZE counts", z.hull(6), 7);
    }

    private static void promise18() {
        FusionRules x = made(1, 3, 0);
        due("how many", x.character(-1, 99), 3);
        int[][] rows = {{1, 1, 1}, {1, 5, 25}, {1, 25, 5}};
        for (int i = 0; i < 3; i++) {
            for (int k = 0; k < 3; k++) {
                due("character", x.character(i, k), rows[i][k]);
            }
        }
        due("k", x.character(0, 3), -1);
        due("k below", x.character(0, -1), -1);
        due("NONE ahead of NOT", x.character(3, 3), -1);
        due("3", x.character(3, 0), -5);
        due("below", x.character(-2, 0), -5);
        due("below, k does not matter", x.character(-2, 9), -5);
        FusionRules y = made(4, 2, 1);
        due("golden", y.character(-1, 0), 2);
        due("13", y.character(0, 1), 13);
        due("19", y.character(1, 1), 19);
        y.set(2, 3);
        due("forgotten with FIGURE", y.character(-1, 0), 0);
        y.set(1, 1);
        due("SIZE 1", y.character(-1, 0), 1);
        due("SIZE 1, 0", y.character(0, 0), 1);
        FusionRules z = made(0, 2, 0);
        due("x x is 0", z.character(-1, 0), 1);
        z.tell(1, 1, 1, 9);
        due("x x is 9 x", z.character(1, 1), 9);
        FusionRules u = made(0, 3, 0);
        u.tell(1, 2, 1, 1);
        // x y = x, y x = 0, x x = 0, y y = 0: x is 0, y is 0
        due("both orders", u.character(-1, 0), 1);
        u.tell(2, 2, 2, 1);
        due("0 and 0, 0 and 1", u.character(-1, 0), 2);
        due("as rows", u.character(1, 2), 1);
    }

    private static void promise19() {
        FusionRules x = made(1, 3, 0);
        due("1 1 1", x.squares(0), 3);
        due("1 5 25", x.squares(1), (1 + 25 + 625) % 31);
        due("3", x.squares(3), -5);
        due("-1", x.squares(-1), -5);
        due("golden", made(4, 2, 1).squares(1), (1 + 361) % 31);
    }

    private static void promise20() {
        int[][] full = {{1, 2, 0}, {1, 3, 0}, {1, 5, 0}, {3, 2, 0}, {4, 2, 1}, {2, 2, 0}};
        for (int[] told : full) {
            FusionRules x = made(told[0], told[1], told[2]);
            due("as many", x.character(-1, 0), told[1]);
            for (int i = 0; i < told[1]; i++) {
                for (int j = 0; j < told[1]; j++) {
                    for (int k = 0; k < told[1]; k++) {
                        due("back", x.back(i, j, k), x.often(i, j, k));
                    }
                }
            }
        }
        FusionRules y = made(4, 2, 3);
        due("not as many", y.back(0, 0, 0), -3);
        due("NONE ahead of STATE", y.back(2, 0, 0), -1);
        due("j", y.back(0, 2, 0), -1);
        due("k", y.back(0, 0, -1), -1);
        due("SIZE 1", made(0, 1, 0).back(0, 0, 0), 1);
    }

    private static void promise21() {
        FusionRules x = new FusionRules();
        due("table", x.table(4, 4, 30), 0);
        due("table again", x.table(4, 4, 0), 30);
        due("i", x.table(5, 0, 0), -1);
        due("m", x.table(0, 5, 0), -1);
        due("below", x.table(-1, 0, 0), -1);
        due("m below", x.table(0, -1, 0), -1);
        due("NONE ahead of BAD", x.table(5, 0, 31), -1);
        due("31", x.table(0, 0, 31), -2);
        due("-1", x.table(0, 0, -1), -2);
        x.table(0, 1, 7);
        due("i is the row", x.table(1, 0, 0), 0);
        due("m is the column", x.table(0, 1, 0), 7);
    }

    private static void promise22() {
        FusionRules x = new FusionRules();
        due("twist", x.twist(4, 30), 0);
        due("twist again", x.twist(4, 1), 30);
        due("i", x.twist(5, 0), -1);
        due("below", x.twist(-1, 31), -1);
        due("31", x.twist(0, 31), -2);
        due("-1", x.twist(0, -1), -2);
        due("nothing changed", x.twist(0, 0), 0);
    }

    private static void promise23() {
        FusionRules x = made(1, 3, 0);
        x.table(3, 3, 9);
        x.table(0, 4, 8);
        due("fill", x.fill(), 3);
        due("1 1", x.table(1, 1, 0), 5);
        due("1 2", x.table(1, 2, 0), 25);
        due("2 1", x.table(2, 1, 0), 25);
        due("beyond stays", x.table(3, 3, 0), 9);
        due("beyond stays, too", x.table(0, 4, 0), 8);
        FusionRules y = made(4, 2, 3);
        y.table(0, 0, 4);
        due("not as many", y.fill(), -3);
        due("nothing changed", y.table(0, 0, 0), 4);
        FusionRules z = made(4, 2, 1);
        z.fill();
        due("S (i, m) is of i in the m-th", z.table(1, 0, 0), 13);
        due("S (0, m) is 1", z.table(0, 1, 0), 1);
    }

    private static void promise24() {
        FusionRules x = made(1, 3, 0);
        due("no table", x.given(0, 0, 0), -3);
        due("NONE ahead of STATE", x.given(3, 0, 0), -1);
        due("j", x.given(0, 3, 0), -1);
        due("k", x.given(0, 0, 3), -1);
        x.fill();
        for (int i = 0; i < 3; i++) {
            for (int j = 0; j < 3; j++) {
                for (int k = 0; k < 3; k++) {
                    due("given", x.given(i, j, k), x.often(i, j, k));
                }
            }
        }
        FusionRules y = new FusionRules();
        y.table(0, 0, 1);
        y.table(1, 1, 1);
        due("an S (0, m) is 0", y.given(0, 0, 0), -3);
        y.table(0, 0, 2);
        y.table(0, 1, 3);
        // W: 16, 14; 0, 1
        due("ONE ONE ONE", y.given(0, 0, 0), 1);
        due("ONE x x", y.given(0, 1, 1), 1);
        due("x x ONE", y.given(1, 1, 0), 0);
        due("x x x is 1 by 3", y.given(1, 1, 1), 21);
        y.table(1, 0, 4);
        y.table(1, 1, 6);
        due("rows that are alike", y.given(0, 0, 0), -3);
        y.table(1, 1, 0);
        // S: 2 3, 4 0; W: 0 8, 21 17
        due("x x ONE by a swap", y.given(1, 1, 0), 0);
        due("x x x by a swap", y.given(1, 1, 1), 4 * 4 * 8 * 16 % 31);
    }

    private static void promise25() {
        FusionRules x = new FusionRules();
        due("no table", x.law(0), 0);
        due("no table 1", x.law(1), 0);
        due("2", x.law(2), -1);
        due("-1", x.law(-1), -1);
        x.table(0, 1, 3);
        x.table(1, 0, 5);
        due("15 times the plain one", x.law(0), 1);
        due("TWIST 0", x.law(1), 0);
        x.table(0, 1, 1);
        x.table(1, 0, 1);
        x.table(0, 0, 1);
        due("1 1 1 0", x.law(0), 0);
        x.table(1, 1, 30);
        due("2 times the plain one", x.law(0), 1);
        x.twist(0, 1);
        x.twist(1, 1);
        // S S is 2, S S S is 2 S
        due("S S S is not S S", x.law(1), 0);
        x.table(0, 1, 0);
        x.table(1, 0, 0);
        due("1, -1", x.law(0), 1);
        due("S S S is S", x.law(1), 0);
        x.twist(1, 30);
        due("S TWIST is 1", x.law(1), 1);
        x.table(1, 1, 2);
        due("two numbers", x.law(0), 0);
        x.table(1, 1, 0);
        due("an empty row", x.law(0), 0);
        due("one number alone", x.law(1), 1);
        x.table(0, 0, 0);
        x.table(0, 1, 1);
        due("S S is 0", x.law(1), 0);
        FusionRules y = new FusionRules();
        // with this S the law wants a TWIST that is a root of -1, and MODULO 31 there is none
        y.table(0, 0, 1);
        y.table(0, 1, 1);
        y.table(1, 0, 1);
        y.table(1, 1, 30);
        int laws = 0;
        for (int t = 0; t < 31; t++) {
            y.twist(0, 1);
            y.twist(1, t);
            laws += y.law(1);
        }
        due("no TWIST", laws, 0);
        FusionRules z = made(1, 3, 0);
        z.fill();
        z.twist(0, 1);
        z.twist(1, 5);
        z.twist(2, 5);
        z.twist(3, 7);
        z.table(3, 0, 7);
        z.table(0, 3, 7);
        due("three: LAW 0", z.law(0), 1);
        due("three: LAW 1", z.law(1), 1);
        z.twist(2, 25);
        due("three, otherwise", z.law(1), 0);
        FusionRules u = new FusionRules();
        u.table(0, 0, 1);
        u.table(1, 0, 1);
        due("a column alone", u.law(0), 0);
    }

    private static void promise26() {
        FusionRules x = made(4, 5, 9);
        due("0", x.small(0, -1), 0);
        due("none", x.small(0, 0), -5);
        due("1", x.small(1, -1), 6);
        for (int b = 0; b <= 3; b++) {
            int[] byHand = smallByHand(b);
            due("how many", x.small(b, -1), byHand.length);
            for (int i = 0; i < byHand.length; i++) {
                due("small(" + b + ", " + i + ")", x.small(b, i), byHand[i]);
            }
            due("not so many", x.small(b, byHand.length), -5);
        }
        due("below", x.small(1, -2), -5);
        due("b 4", x.small(4, -1), -2);
        due("b -1", x.small(-1, -1), -2);
        due("BAD ahead of NOT", x.small(4, -2), -2);
    }

    /** By hand there is one law alone, as x and y are alike in either order. */
    private static int[] smallByHand(int b) {
        int[] rows = new int[256];
        int found = 0;
        for (int p = 0; p <= b; p++) {
            for (int q = 0; q <= b; q++) {
                for (int r = 0; r <= b; r++) {
                    for (int s = 0; s <= b; s++) {
                        if (1 + p * r + q * s == q * q + r * r) {
                            rows[found++] = 1000 * p + 100 * q + 10 * r + s;
                        }
                    }
                }
            }
        }
        return java.util.Arrays.copyOf(rows, found);
    }

    private static void promise27() {
        FusionRules x = new FusionRules();
        due("SIZE 2: always", x.were(1, 1, 0), 1023);
        due("beyond SIZE", x.were(4, 4, 4), 1023);
        due("i", x.were(0, 1, 0), -1);
        due("j", x.were(1, 0, 0), -1);
        due("j 5", x.were(1, 5, 0), -1);
        due("k", x.were(1, 1, 5), -1);
        due("k below", x.were(1, 1, -1), -1);
        FusionRules y = made(0, 3, 0);
        rules(y, "b*b=a;b*c=c;c*c=a+b");
        due("any of c in c*c", y.were(2, 2, 2), 1023);
        due("once of a in c*c", y.were(2, 2, 0), 2);
        due("not of b in b*c", y.were(1, 2, 1), 1);
        due("c in b*c", y.were(2, 1, 2), 2);
        due("changes nothing", y.clash(0), -5);
        due("changes no number", y.count(0), 5);
        y.tell(1, 1, 1, 1);
        due("a CLASH", y.clash(0) >= 0 ? 1 : 0, 1);
        due("healed", y.were(1, 1, 1), 1);
        due("not healed", y.were(2, 2, 2), 0);
        due("beyond SIZE, a CLASH", y.were(4, 1, 0), 0);
        y.set(0, 1);
        due("by another KIND", y.were(1, 1, 1), 1023);
        y.set(0, 0);
        due("as it was", y.often(1, 1, 1), 1);
    }

    private static int drawn(int seed, int m, int n) {
        int z = seed;
        int sum = 0;
        for (int i = 0; i < m; i++) {
            z = z * 1103515245 + 12345;
            sum += (z >>> 16) % n;
        }
        return sum % n;
    }

    private static void promise28() {
        for (int seed : new int[] {0, 7, -5, Integer.MAX_VALUE - 3, Integer.MIN_VALUE}) {
            for (int m : new int[] {1, 2, 12}) {
                FusionRules x = made(1, 5, 0);
                for (int k = 0; k < 5; k++) {
                    int hits = 0;
                    for (int more = 0; more < 30; more++) {
                        hits += drawn(seed + more, m, 5) == k ? 1 : 0;
                    }
                    long above = x.odds(k, m, seed, 30, 0);
                    long below = x.odds(k, m, seed, 30, 1);
                    due("odds", above * 30, hits * below);
                    due("lowest terms", java.math.BigInteger.valueOf(above).gcd(java.math.BigInteger.valueOf(below)).intValue(), 1);
                }
            }
        }
        FusionRules y = made(0, 2, 0);
        due("SIZE 2 by one", y.odds(0, 1, 7, 1, 1), 1);
        FusionRules one = made(0, 1, 0);
        due("always", one.odds(0, 12, 3, 30, 0), 1);
        due("by 1", one.odds(0, 12, 3, 30, 1), 1);
        FusionRules none = made(3, 2, 0);
        due("0 or 1", none.odds(0, 1, 5, 1, 0) + none.odds(1, 1, 5, 1, 0), 1);
        due("0 by 1", none.odds(none.odds(0, 1, 5, 1, 0) == 1 ? 1 : 0, 1, 5, 1, 1), 1);
        due("SORT", y.odds(2, 1, 0, 1, 0), NO);
        due("SORT below", y.odds(-1, 1, 0, 1, 0), NO);
        due("m 0", y.odds(0, 0, 0, 1, 0), NO);
        due("m 13", y.odds(0, 13, 0, 1, 0), NO);
        due("q 0", y.odds(0, 1, 0, 0, 0), NO);
        due("q 31", y.odds(0, 1, 0, 31, 0), NO);
        due("part 2", y.odds(0, 1, 0, 1, 2), NO);
        due("part -1", y.odds(0, 1, 0, 1, -1), NO);
    }

    private static void promise29() {
        FusionRules x = new FusionRules();
        due("3", x.plan(3, 0), -1);
        due("-2", x.plan(-2, 0), -1);
        due("NONE ahead of BAD", x.plan(3, 99), -1);
        due("0 by 5", x.plan(0, 5), -2);
        due("1 by 5", x.plan(1, 5), -2);
        due("2 by 10", x.plan(2, 10), -2);
        due("0 by -1", x.plan(0, -1), -2);
        due("empty", x.plan(-1, 99), 0);
        for (int i = 1; i <= 8; i++) {
            due("plan", x.plan(i % 3, i % 3 == 2 ? 9 : 4), i);
        }
        due("FULL", x.plan(0, 0), -4);
        due("BAD ahead of FULL", x.plan(0, 5), -2);
        due("NONE ahead of FULL", x.plan(4, 5), -1);
        due("rows", x.count(4), 8);
        due("empty again", x.plan(-1, -7), 0);
        due("no rows", x.count(4), 0);
        due("first again", x.plan(2, 0), 1);
    }

    private static void promise30() {
        FusionRules x = made(4, 3, 2);
        element(x, 0, "2a+b+c");
        due("no PLAN", x.ends(0, 0), 2);
        x.plan(0, 2);
        // (2a + b + c) T = 3 T + a + b + 2 T
        due("a", x.ends(0, 0), 1);
        due("b", x.ends(0, 1), 1);
        due("T", x.ends(0, 2), 5);
        x.plan(1, 1);
        due("1 more", x.ends(0, 1), 2);
        x.plan(0, 4);
        x.plan(1, 3);
        due("left out", x.ends(0, 1), 2);
        x.plan(2, 9);
        x.plan(2, 9);
        due("81 times", x.ends(0, 2), 405);
        x.plan(2, 9);
        due("999 at most", x.ends(0, 2), 999);
        due("729", x.ends(0, 0), 729);
        x.plan(0, 1);
        due("behind each ROW", x.ends(0, 2), 999);
        due("b has been put to a", x.ends(0, 0), 999);
        due("a has been put to b", x.ends(0, 1), 729);
        text("nothing changed", row(x, 0), "2 1 1");
        due("element", x.ends(4, 0), -1);
        due("SORT", x.ends(0, 3), -1);
        due("below", x.ends(-1, -1), -1);
        FusionRules y = made(0, 3, 0);
        y.tell(1, 2, 1, 3);
        y.give(0, 1, 1);
        y.plan(0, 2);
        due("the ELEMENT first", y.ends(0, 1), 3);
        FusionRules z = made(0, 2, 0);
        z.tell(1, 1, 0, 9);
        z.give(0, 1, 999);
        z.plan(0, 1);
        z.plan(2, 0);
        z.plan(1, 0);
        due("0 times and 1 more", z.ends(0, 0), 1);
        z.plan(-1, 0);
        z.plan(0, 1);
        due("999 at most of ONE", z.ends(0, 0), 999);
        z.plan(2, 0);
        due("0 times", z.ends(0, 1), 0);
    }

    private static void promise31() {
        FusionRules x = made(0, 5, 0);
        String[] texts = {"0", "a", "e", "2a+b", "10a+100b+999c+d+11e", "999a+999b+999c+999d+999e", "101b", "110c+20d", "a+b+2c"};
        for (String text : texts) {
            element(x, 2, text);
            text("written", written(x, 2), text);
            due("bytes", x.write(2), text.length());
            due("count", x.count(3), text.length());
        }
        x.set(1, 2);
        element(x, 2, "0");
        text("beyond SIZE is not written", written(x, 2), "0");
        element(x, 2, "b");
        x.write(2);
        due("no element", x.write(4), -1);
        due("below", x.write(-1), -1);
        due("THE PAPER stays", x.paper(0), 'b');
    }

    private static void promise32() {
        FusionRules x = new FusionRules();
        due("nothing", x.paper(0), -1);
        x.give(0, 0, 12);
        x.write(0);
        due("0", x.paper(0), '1');
        due("1", x.paper(1), '2');
        due("2", x.paper(2), 'a');
        due("3", x.paper(3), -1);
        due("-1", x.paper(-1), -1);
        x.write(1);
        due("the latest", x.paper(0), '0');
        due("the latest alone", x.paper(1), -1);
    }

    private static void promise33() {
        FusionRules x = made(1, 3, 0);
        due("NOTHING", x.judge(0, 1, 2), NOTHING);
        due("NONE ahead of NOTHING", x.judge(0, 3, 0), -1);
        due("list", x.judge(4, 0, 0), -1);
        due("list below", x.judge(-1, 0, 0), -1);
        due("j", x.judge(0, 0, 3), -1);
        x.list(0, 12);
        due("0 0 0", x.judge(0, 1, 2), 0);
        x.put(0, 0, 1);
        due("1 0 0", x.judge(0, 1, 2), -5);
        x.put(0, 11, 1);
        due("beyond SIZE", x.judge(0, 1, 2), 11);
        x.put(0, 4, 1L << 32);
        due("a long", x.judge(0, 1, 2), 4);
        x.list(1, 0);
        due("no place", x.judge(1, 1, 2), -5);
        x.list(1, 2);
        due("a short one", x.judge(1, 1, 1), -5);
        x.list(1, 3);
        due("place 2", x.judge(1, 1, 1), 2);
    }

    private static void promise34() {
        FusionRules x = new FusionRules();
        due("list", x.list(3, 12), 1);
        due("13", x.list(3, 13), -2);
        due("-1", x.list(3, -1), BELOW);
        due("4", x.list(4, 0), -1);
        due("NONE ahead of BAD", x.list(-1, 13), -1);
        x.put(3, 0, 4);
        x.put(3, 2, 5);
        due("5", x.get(3, 2), 5);
        due("again", x.list(3, 3), 1);
        due("all 0", x.get(3, 2), 0);
        due("all 0, the first, too", x.get(3, 0), 0);
        due("shorter", x.get(3, 3), NO);
        due("0", x.list(3, 0), 1);
        due("a row of 0", x.put(3, 0, 1), BEYOND);
    }

    private static void promise35() {
        FusionRules x = new FusionRules();
        due("NOTHING", x.put(0, 0, 1), NOTHING);
        due("NOTHING ahead of BEYOND", x.put(0, 12, 1), NOTHING);
        due("NONE", x.put(4, 0, 1), -1);
        x.list(0, 2);
        x.list(1, 12);
        due("put", x.put(0, 1, Long.MAX_VALUE), 1);
        due("get", x.get(0, 1), Long.MAX_VALUE);
        due("BEYOND", x.put(0, 2, 1), BEYOND);
        due("BEYOND below", x.put(0, -1, 1), BEYOND);
        due("other lists stay", x.get(1, 0), 0);
    }

    private static void promise36() {
        FusionRules x = new FusionRules();
        due("nothing there", x.get(0, 0), NO);
        due("no LIST", x.get(4, 0), NO);
        due("no LIST below", x.get(-1, 0), NO);
        x.list(2, 3);
        x.put(2, 2, -9);
        due("get", x.get(2, 2), -9);
        due("no place", x.get(2, 3), NO);
        due("no place below", x.get(2, -1), NO);
    }

    private static FusionRules full() {
        FusionRules x = made(4, 3, 6);
        x.tell(1, 1, 1, 4);
        x.give(1, 2, 33);
        x.table(4, 4, 3);
        x.twist(4, 2);
        x.plan(1, 2);
        x.plan(2, 3);
        return x;
    }

    private static void promise37() {
        FusionRules x = full();
        due("image", x.image(), 3);
        x.set(1, 5);
        due("image again", x.image(), 5);
        due("of the later one", x.undo(), 5);
    }

    private static void promise38() {
        FusionRules x = full();
        due("none", x.undo(), -3);
        x.image();
        x.list(0, 2);
        x.put(0, 1, 8);
        feed(x, "abc");
        x.set(0, 1);
        x.set(1, 5);
        x.set(2, 0);
        x.tell(1, 1, 1, 5);
        x.tell(4, 4, 4, 5);
        x.give(1, 2, 34);
        x.give(3, 4, 34);
        x.table(4, 4, 30);
        x.table(0, 0, 30);
        x.twist(4, 30);
        x.plan(-1, 0);
        x.plan(2, 9);
        x.write(1);
        due("often ahead", x.often(4, 4, 3), 1);
        due("undo", x.undo(), 3);
        due("KIND", x.of(0), 4);
        due("SIZE", x.of(1), 3);
        due("FIGURE", x.of(2), 6);
        due("often", x.often(2, 2, 2), 6);
        due("THE TABLE", x.count(0), 1);
        due("ELEMENTS", x.count(1), 1);
        due("number", x.has(1, 2), 33);
        due("PLAN", x.count(4), 2);
        due("PLAN as it was", x.ends(1, 2), 102);
        due("THE TAPE stays", x.count(2), 3);
        due("THE PAPER stays", x.count(3), 3);
        due("LISTS stay", x.get(0, 1), 8);
        due("told", x.tell(1, 1, 1, 0), 4);
        due("S", x.table(4, 4, 0), 3);
        due("S else", x.table(0, 0, 0), 0);
        due("TWIST", x.twist(4, 0), 2);
        due("once more", x.undo(), 3);
        due("THE IMAGE stays as it was", x.tell(1, 1, 1, 0), 4);
    }

    private static void promise39() {
        FusionRules x = new FusionRules();
        x.tell(4, 4, 4, 1);
        x.tell(1, 1, 0, 1);
        due("THE TABLE, beyond SIZE, too", x.count(0), 2);
        x.set(1, 5);
        x.give(3, 4, 1);
        x.give(0, 0, 1);
        x.set(1, 1);
        due("of all five SORTS", x.count(1), 2);
        x.feed(1);
        due("THE TAPE", x.count(2), 1);
        x.write(0);
        due("THE PAPER", x.count(3), 1);
        x.plan(0, 0);
        due("ROWS", x.count(4), 1);
        due("5", x.count(5), -2);
        due("-1", x.count(-1), -2);
    }

    private static void rulesAndElements() {
        promise1();
        promise2();
        promise3();
        promise4();
        promise5();
        promise6();
        promise7();
        promise8();
        promise9();
        promise10();
        promise11();
        promise12();
        promise13();
        promise14();
        promise15();
        promise16();
        promise17();
    }

    private static void charactersAndTables() {
        promise18();
        promise19();
        promise20();
        promise21();
        promise22();
        promise23();
        promise24();
        promise25();
        promise26();
        promise27();
        promise28();
    }

    private static void plansAndLists() {
        promise29();
        promise30();
        promise31();
        promise32();
        promise33();
        promise34();
        promise35();
        promise36();
        promise37();
        promise38();
        promise39();
    }

    public static void main(String[] args) {
        rulesAndElements();
        charactersAndTables();
        plansAndLists();
        CHECK.end("PromiseTest");
    }
}
