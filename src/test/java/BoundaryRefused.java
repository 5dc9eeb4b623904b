/** For each promise: what is refused or asked changes nothing of all that an object holds. */
final class BoundaryRefused extends Runs {
    private static final String CHANGES = "What is answered so changes nothing;";
    private static final String ASKED = "what is asked changes nothing but THE PAPER.";
    private static final String TAPE = "-100 less a FAULT; THE TAPE is empty behind each call that reads it.";

    private BoundaryRefused() {
    }

    /** A call on an object. */
    private interface Call {
        long on(FusionRules x);
    }

    private static FusionRules behind(Call ahead, Call call, long due) {
        FusionRules x = Whole.made();
        ahead.on(x);
        due("the call", call.on(x), due);
        return x;
    }

    /** Behind some other calls the call has this answer, and changes nothing. */
    private static void same(Call ahead, Call call, long due) {
        Call none = x -> due;
        text("what it holds", Whole.held(behind(ahead, call, due)), Whole.held(behind(ahead, none, due)));
        text("THE IMAGE", Whole.image(behind(ahead, call, due)), Whole.image(behind(ahead, none, due)));
        text("THE PAPER, LISTS", Whole.paperAndLists(behind(ahead, call, due)), Whole.paperAndLists(behind(ahead, none, due)));
        text("THE TAPE", Whole.tape(behind(ahead, call, due)), Whole.tape(behind(ahead, none, due)));
    }

    private static void same(Call call, long due) {
        same(x -> 0, call, due);
    }

    /** THE TAPE is empty behind it, all else is as it was. */
    private static void sameButTape(Call ahead, Call call, long due) {
        Call none = x -> due;
        text("what it holds", Whole.held(behind(ahead, call, due)), Whole.held(behind(ahead, none, due)));
        text("THE IMAGE", Whole.image(behind(ahead, call, due)), Whole.image(behind(ahead, none, due)));
        text("THE PAPER, LISTS", Whole.paperAndLists(behind(ahead, call, due)), Whole.paperAndLists(behind(ahead, none, due)));
        due("THE TAPE", behind(ahead, call, due).count(2), 0);
    }

    @Sentence(promise = 2, says = CHANGES)
    static void set() {
        same(x -> x.set(3, 1), NONE);
        same(x -> x.set(-1, 1), NONE);
        same(x -> x.set(0, 5), BAD);
        same(x -> x.set(0, -1), BAD);
        same(x -> x.set(1, 0), BAD);
        same(x -> x.set(1, 6), BAD);
        same(x -> x.set(2, -1), BAD);
        same(x -> x.set(2, 10), BAD);
    }

    @Sentence(promise = 3, says = ASKED)
    static void of() {
        same(x -> x.of(0), 0);
        same(x -> x.of(1), 3);
        same(x -> x.of(2), 5);
        same(x -> x.of(3), NONE);
    }

    @Sentence(promise = 4, says = CHANGES)
    static void tell() {
        same(x -> x.tell(0, 1, 0, 9), NONE);
        same(x -> x.tell(1, 0, 0, 9), NONE);
        same(x -> x.tell(1, 1, 5, 9), NONE);
        same(x -> x.tell(1, 1, -1, 9), NONE);
        same(x -> x.tell(1, 1, 0, 10), BAD);
        same(x -> x.tell(1, 1, 0, -1), BAD);
    }

    @Sentence(promise = 5, says = CHANGES)
    static void feed() {
        same(x -> x.feed(0), BAD);
        same(x -> x.feed(128), BAD);
        Call full = x -> {
            for (int i = 0; i < 28; i++) {
                x.feed('+');
                x.feed('a');
            }
            return 0;
        };
        same(full, x -> x.count(2), 60);
        same(full, x -> x.feed('b'), FULL);
        same(full, x -> x.feed(0), BAD);
    }

    @Sentence(promise = 6, says = TAPE)
    static void rules() {
        sameButTape(x -> 0, x -> x.rules(), -101);
        sameButTape(x -> x.element(1), x -> x.rules(), -100);
        Call wrong = x -> {
            x.element(1);
            for (char letter : "b*b=9b+9c;b*c=5a;c*c=0;e*e=e".toCharArray()) {
                x.feed(letter);
            }
            return 0;
        };
        sameButTape(wrong, x -> x.rules(), -123);
    }

    @Sentence(promise = 7, says = ASKED)
    static void often() {
        same(x -> x.often(2, 2, 1), 1);
        same(x -> x.often(3, 0, 0), NONE);
    }

    @Sentence(promise = 8, says = ASKED)
    static void clash() {
        same(x -> x.clash(0), NOT);
        same(x -> x.clash(1), NOT);
        same(x -> x.clash(2), NONE);
        same(x -> x.tell(1, 1, 1, 1), x -> x.clash(0), 1122);
        same(x -> x.tell(1, 2, 1, 1), x -> x.clash(1), 12);
    }

    @Sentence(promise = 9, says = ASKED)
    static void partner() {
        same(x -> x.partner(2), 2);
        same(x -> x.partner(3), NONE);
        same(x -> x.tell(1, 1, 0, 2), x -> x.partner(1), NOT);
    }

    @Sentence(promise = 10, says = ASKED)
    static void power() {
        same(x -> x.power(2, 8, 1), 8);
        same(x -> x.power(2, 9, 2), NO);
    }

    @Sentence(promise = 11, says = CHANGES)
    static void elementNone() {
        same(x -> x.element(4), NONE);
        same(x -> x.element(-1), NONE);
    }

    @Sentence(promise = 11, says = TAPE)
    static void elementFault() {
        sameButTape(x -> x.feed('d'), x -> x.element(0), -104);
        sameButTape(x -> x.feed('+'), x -> x.element(1), -105);
        sameButTape(x -> x.rules(), x -> x.element(2), -100);
    }

    @Sentence(promise = 12, says = ASKED)
    static void has() {
        same(x -> x.has(2, 2), 999);
        same(x -> x.has(3, 4), NONE);
    }

    @Sentence(promise = 13, says = CHANGES)
    static void give() {
        same(x -> x.give(4, 0, 1), NONE);
        same(x -> x.give(0, 3, 1), NONE);
        same(x -> x.give(0, 0, 1000), BAD);
        same(x -> x.give(0, 0, -1), BAD);
    }

    @Sentence(promise = 14, says = CHANGES)
    static void together() {
        same(x -> x.together(4, 0), NONE);
        same(x -> x.together(0, 4), NONE);
        same(x -> x.together(2, 2), STATE);
        same(x -> x.together(0, 2), STATE);
        same(x -> x.give(1, 1, 5), x -> x.together(1, 2), STATE);
    }

    @Sentence(promise = 15, says = ASKED)
    static void closed() {
        same(x -> x.closed(3), 1);
        same(x -> x.closed(5), 0);
        same(x -> x.closed(8), BAD);
    }

    @Sentence(promise = 16, says = ASKED)
    static void closedSet() {
        same(x -> x.closedSet(-1), 3);
        same(x -> x.closedSet(2), 7);
        same(x -> x.closedSet(3), NOT);
    }

    @Sentence(promise = 17, says = ASKED)
    static void hull() {
        same(x -> x.hull(4), 7);
        same(x -> x.hull(8), BAD);
    }

    @Sentence(promise = 18, says = ASKED)
    static void character() {
        same(x -> x.character(-1, 9), 3);
        same(x -> x.character(2, 1), 30);
        same(x -> x.character(0, 3), NONE);
        same(x -> x.character(3, 0), NOT);
    }

    @Sentence(promise = 19, says = ASKED)
    static void squares() {
        same(x -> x.squares(2), 2);
        same(x -> x.squares(3), NOT);
    }

    @Sentence(promise = 20, says = ASKED)
    static void back() {
        same(x -> x.back(2, 2, 1), 1);
        same(x -> x.back(3, 0, 0), NONE);
        same(x -> x.tell(1, 1, 0, 0), x -> x.back(0, 0, 0), STATE);
    }

    @Sentence(promise = 21, says = CHANGES)
    static void table() {
        same(x -> x.table(5, 0, 1), NONE);
        same(x -> x.table(0, 5, 1), NONE);
        same(x -> x.table(0, 0, 31), BAD);
        same(x -> x.table(0, 0, -1), BAD);
    }

    @Sentence(promise = 22, says = CHANGES)
    static void twist() {
        same(x -> x.twist(5, 1), NONE);
        same(x -> x.twist(0, 31), BAD);
        same(x -> x.twist(0, -1), BAD);
    }

    @Sentence(promise = 23, says = CHANGES)
    static void fill() {
        same(x -> x.tell(1, 1, 0, 0), x -> x.fill(), STATE);
        same(x -> x.set(1, 5), x -> x.fill(), STATE);
    }

    @Sentence(promise = 24, says = ASKED)
    static void given() {
        same(x -> x.given(0, 0, 0), STATE);
        same(x -> x.given(3, 0, 0), NONE);
        same(x -> x.fill(), x -> x.given(2, 2, 1), 1);
    }

    @Sentence(promise = 25, says = ASKED)
    static void law() {
        same(x -> x.law(0), 0);
        same(x -> x.law(1), 0);
        same(x -> x.law(2), NONE);
        same(x -> x.set(1, 1), x -> x.law(0), 1);
        same(x -> x.set(1, 1), x -> x.law(1), 1);
    }

    @Sentence(promise = 26, says = ASKED)
    static void small() {
        same(x -> x.small(3, -1), 20);
        same(x -> x.small(1, 5), 1110);
        same(x -> x.small(1, 6), NOT);
        same(x -> x.small(4, 0), BAD);
    }

    @Sentence(promise = 27, says = ASKED)
    static void were() {
        same(x -> x.were(2, 2, 0), 2);
        same(x -> x.were(4, 4, 4), 1023);
        same(x -> x.were(0, 1, 1), NONE);
    }

    @Sentence(promise = 28, says = ASKED)
    static void odds() {
        same(x -> x.set(1, 1), x -> x.odds(0, 12, 7, 30, 0), 1);
        same(x -> x.odds(3, 12, 7, 30, 0), NO);
        same(x -> x.odds(0, 13, 7, 30, 0), NO);
    }

    @Sentence(promise = 29, says = CHANGES)
    static void plan() {
        same(x -> x.plan(3, 0), NONE);
        same(x -> x.plan(-2, 0), NONE);
        same(x -> x.plan(0, 5), BAD);
        same(x -> x.plan(2, 10), BAD);
        Call full = x -> x.plan(1, 0) + x.plan(1, 1) + x.plan(0, 2) + x.plan(2, 2);
        same(full, x -> x.count(4), 8);
        same(full, x -> x.plan(2, 0), FULL);
    }

    @Sentence(promise = 30, says = ASKED)
    static void ends() {
        same(x -> x.ends(0, 2), 33);
        same(x -> x.ends(4, 0), NONE);
        same(x -> x.ends(0, 3), NONE);
    }

    @Sentence(promise = 31, says = CHANGES)
    static void writeNone() {
        same(x -> x.write(4), NONE);
        same(x -> x.write(-1), NONE);
    }

    @Sentence(promise = 31, says = ASKED)
    static void write() {
        Call ahead = x -> x.write(2);
        same(ahead, x -> x.write(2), 4);
        text("LISTS stay", Whole.paperAndLists(behind(ahead, ahead, 4)).replaceAll("paper.*", ""),
            Whole.paperAndLists(Whole.made()).replaceAll("paper.*", ""));
        text("what it holds", Whole.held(behind(ahead, ahead, 4)), Whole.held(Whole.made()));
        text("THE TAPE", Whole.tape(behind(ahead, ahead, 4)), Whole.tape(Whole.made()));
    }

    @Sentence(promise = 32, says = ASKED)
    static void paper() {
        same(x -> x.paper(0), '2');
        same(x -> x.paper(8), NONE);
    }

    @Sentence(promise = 33, says = ASKED)
    static void judge() {
        same(x -> x.judge(0, 0, 0), 11);
        same(x -> x.judge(1, 1, 1), NOT);
        same(x -> x.judge(3, 1, 1), NOTHING);
        same(x -> x.judge(0, 3, 0), NONE);
    }

    @Sentence(promise = 34, says = CHANGES)
    static void list() {
        same(x -> x.list(4, 1), NONE);
        same(x -> x.list(0, 13), BAD);
        same(x -> x.list(0, -1), BELOW);
        same(x -> x.list(3, -1), BELOW);
    }

    @Sentence(promise = 35, says = CHANGES)
    static void put() {
        same(x -> x.put(4, 0, 1), NONE);
        same(x -> x.put(3, 0, 1), NOTHING);
        same(x -> x.put(0, 12, 1), BEYOND);
        same(x -> x.put(1, 0, 1), BEYOND);
        same(x -> x.put(2, 3, 1), BEYOND);
        same(x -> x.put(2, -1, 1), BEYOND);
    }

    @Sentence(promise = 36, says = ASKED)
    static void get() {
        same(x -> x.get(0, 11), Long.MAX_VALUE);
        same(x -> x.get(0, 12), NO);
        same(x -> x.get(3, 0), NO);
        same(x -> x.get(4, 0), NO);
    }

    @Sentence(promise = 37, says = "THE IMAGE is taken: SIZE.")
    static void image() {
        text("what it holds", Whole.held(behind(x -> 0, x -> x.image(), 3)), Whole.held(Whole.made()));
        text("THE PAPER, LISTS", Whole.paperAndLists(behind(x -> 0, x -> x.image(), 3)), Whole.paperAndLists(Whole.made()));
        text("THE TAPE", Whole.tape(behind(x -> 0, x -> x.image(), 3)), Whole.tape(Whole.made()));
        text("THE IMAGE", Whole.image(behind(x -> 0, x -> x.image(), 3)), "undo 3\n" + Whole.held(Whole.made()));
    }

    @Sentence(promise = 38, says = "All is as THE IMAGE: SIZE. STATE: there is none.")
    static void undo() {
        text("THE PAPER, LISTS", Whole.paperAndLists(behind(x -> 0, x -> x.undo(), 5)), Whole.paperAndLists(Whole.made()));
        text("THE IMAGE stays", Whole.image(behind(x -> x.undo(), x -> x.set(2, 9), 4)), Whole.image(Whole.made()));
        FusionRules x = new FusionRules();
        due("none", x.undo(), STATE);
        text("nothing changes", Whole.held(x), Whole.held(new FusionRules()));
    }

    @Sentence(promise = 39, says = ASKED)
    static void count() {
        same(x -> x.count(0), 7);
        same(x -> x.count(1), 6);
        same(x -> x.count(2), 4);
        same(x -> x.count(3), 8);
        same(x -> x.count(4), 4);
        same(x -> x.count(5), BAD);
    }
}
