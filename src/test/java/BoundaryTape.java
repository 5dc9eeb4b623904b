/** The boundary cases of promises 6 and 11: RULES and ELEMENTS read from THE TAPE. */
final class BoundaryTape extends Runs {
    private static final String NUMBERS = "23456789";
    private static final String FIGURES = "0123456789";

    private BoundaryTape() {
    }

    /** By SIZE 3, on a new object each: RULES (KIND of text 0) or an ELEMENT (1). */
    private static int read(int kind, int size, String text) {
        FusionRules x = made(0, size, 0);
        feed(x, text);
        int answer = kind == 0 ? x.rules() : x.element(3);
        due("THE TAPE is empty behind " + text, x.count(2), 0);
        return answer;
    }

    private static void fault(int kind, int size, String text, int place) {
        due("SIZE " + size + ", " + text, read(kind, size, text), -100 - place);
    }

    /** At each place of a text each byte: those that may stand there, and those of them with which it is whole. */
    private static void eachByte(int kind, String text, String[] allowed, String[] ends) {
        for (int place = 0; place < allowed.length; place++) {
            String ahead = text.substring(0, place);
            for (char letter = 1; letter <= 127; letter++) {
                int answer = read(kind, 3, ahead + letter);
                if (allowed[place].indexOf(letter) < 0) {
                    due(ahead + " and byte " + (int) letter, answer, -100 - place);
                } else if (ends[place].indexOf(letter) < 0) {
                    due(ahead + letter + " ends too early", answer, -101 - place);
                } else {
                    due(ahead + letter + " is whole", answer >= 0 ? 1 : 0, 1);
                }
            }
        }
    }

    // ---- 6: rules

    @Sentence(promise = 6, says = "FAULT: the place (from 0) of the first byte with which no such text goes on")
    static void eachByteOfRules() {
        String sum = "0" + NUMBERS + "abc";
        String term = NUMBERS + "abc";
        String[] allowed = {"bc", "*", "bc", "=", sum, "abc", "+;", term, "+;", "bc", "*", "bc", "=", sum, ";"};
        String[] ends = {"", "", "", "", "0abc", "abc", "", "abc", "", "", "", "", "", "0abc", ""};
        eachByte(0, "b*c=2a+c;c*c=0", allowed, ends);
    }

    @Sentence(promise = 6, says = "the length, if it ends too early.")
    static void rulesEndTooEarly() {
        String text = "b*c=2a+9c;c*c=0;b*b=3b";
        String whole = ",6,9,15,22,";
        for (int length = 0; length < text.length(); length++) {
            String ahead = text.substring(0, length);
            if (!whole.contains("," + length + ",")) {
                fault(0, 3, ahead, length);
            }
        }
        fault(0, 3, "", 0);
        due("one CLAUSE", read(0, 3, "b*c=2a"), 1);
        due("one CLAUSE of two TERMS", read(0, 3, "b*c=2a+9c"), 1);
        due("two", read(0, 3, "b*c=2a+9c;c*c=0"), 2);
        due("three", read(0, 3, text), 3);
        // all 60 bytes, and the last one is no end
        fault(0, 3, "b*b=" + "a+".repeat(28), 60);
        fault(0, 3, "b*b=" + "a+".repeat(27) + "a;", 60);
        due("60 bytes that are whole", read(0, 3, "b*b=" + "a+".repeat(26) + "2a+a"), 1);
    }

    @Sentence(promise = 6, says = "THE TAPE (60 bytes at most) tells RULES: CLAUSES, one or more, with ; between")
    static void manyClauses() {
        fault(0, 2, "", 0);
        fault(0, 2, ";", 0);
        fault(0, 2, ";b*b=a", 0);
        fault(0, 2, "b*b=a;", 6);
        fault(0, 2, "b*b=a;;b*b=a", 6);
        due("one", read(0, 2, "b*b=a"), 1);
        due("ten of five bytes", read(0, 2, "b*b=a;".repeat(9) + "b*b=0"), 10);
        due("ten, 60 bytes", read(0, 2, "b*b=a;".repeat(9) + "b*b=2b"), 10);
        fault(0, 2, "b*b=a;".repeat(10), 60);
        FusionRules x = new FusionRules();
        due("of one pair the last one stands", rules(x, "b*b=a;".repeat(9) + "b*b=2b"), 10);
        text("b and b", gives(x, 1, 1), "0 2");
    }

    @Sentence(promise = 6, says = "two letters b .. e with * between, =, SUM.")
    static void lettersOfPairs() {
        for (char one = 'a'; one <= 'f'; one++) {
            for (char other = 'a'; other <= 'f'; other++) {
                boolean oneIsThere = one >= 'b' && one <= 'e';
                boolean otherIsThere = other >= 'b' && other <= 'e';
                int due = oneIsThere && otherIsThere ? 1 : -100 - (oneIsThere ? 2 : 0);
                due("" + one + other, read(0, 5, one + "*" + other + "=0"), due);
            }
        }
        fault(0, 5, "B*b=0", 0);
        fault(0, 5, "b*1=0", 2);
        fault(0, 5, "bb=0", 1);
        fault(0, 5, "b+b=0", 1);
        fault(0, 5, "b*b0", 3);
        fault(0, 5, "b*b*b=0", 3);
    }

    @Sentence(promise = 6, says = "SUM: 0, or TERMS with + between")
    static void sumsOfRules() {
        due("0", read(0, 2, "b*b=0"), 1);
        fault(0, 2, "b*b=00", 5);
        fault(0, 2, "b*b=0+a", 5);
        fault(0, 2, "b*b=0a", 5);
        fault(0, 2, "b*b=a+0", 6);
        fault(0, 2, "b*b=", 4);
        fault(0, 2, "b*b=;", 4);
        fault(0, 2, "b*b=+a", 4);
        fault(0, 2, "b*b=a+", 6);
        fault(0, 2, "b*b=a++a", 6);
        fault(0, 2, "b*b=aa", 5);
        due("a SUM of 28 TERMS", read(0, 2, "b*b=" + "a+".repeat(27) + "a"), 1);
    }

    @Sentence(promise = 6, says = "perhaps a figure 2 .. 9, then a letter a .. e; letters those of SORTS there are.")
    static void termsOfRules() {
        for (char figure = '2'; figure <= '9'; figure++) {
            FusionRules x = new FusionRules();
            due("figure " + figure, rules(x, "b*b=" + figure + "b"), 1);
            due("so OFTEN", x.often(1, 1, 1), figure - '0');
        }
        fault(0, 2, "b*b=1b", 4);
        fault(0, 2, "b*b=0b", 5);
        fault(0, 2, "b*b=22b", 5);
        fault(0, 2, "b*b=20b", 5);
        fault(0, 2, "b*b=:b", 4);
        fault(0, 2, "b*b=/b", 4);
        fault(0, 2, "b*b=2", 5);
        fault(0, 2, "b*b=2+a", 5);
        for (int size = 2; size <= 5; size++) {
            char last = (char) ('a' + size - 1);
            due("a is there", read(0, size, "b*b=a"), 1);
            due(last + " is there", read(0, size, "b*b=9" + last), 1);
            fault(0, size, "b*b=" + (char) (last + 1), 4);
            fault(0, size, "b*b=9" + (char) (last + 1), 5);
            fault(0, size, "b*b=A", 4);
            fault(0, size, "b*b=`", 4);
        }
    }

    @Sentence(promise = 6, says = "in RULES letters of SORTS that there are not are a FAULT ahead of =, too.")
    static void lettersAheadBeyondSize() {
        for (int size = 2; size <= 5; size++) {
            char last = (char) ('a' + size - 1);
            char beyond = (char) (last + 1);
            due("the last one first", read(0, size, last + "*b=a"), 1);
            due("the last one second", read(0, size, "b*" + last + "=a"), 1);
            fault(0, size, beyond + "*b=a", 0);
            fault(0, size, "b*" + beyond + "=a", 2);
            fault(0, size, "b*b=a;" + beyond + "*b=a", 6);
            fault(0, size, "b*b=a;b*" + beyond + "=a", 8);
        }
        fault(0, 1, "", 0);
        fault(0, 1, "b", 0);
        fault(0, 1, "b*b=a", 0);
        fault(0, 1, "a*a=a", 0);
    }

    @Sentence(promise = 6, says = "By each CLAUSE THE TABLE for both (either one first) becomes the SUM")
    static void eitherOneFirst() {
        FusionRules x = told(5, "b*e=2a+e;e*c=3d");
        text("as told", gives(x, 1, 4), "2 0 0 0 1");
        text("the other one first", gives(x, 4, 1), "2 0 0 0 1");
        text("as told", gives(x, 4, 2), "0 0 0 3 0");
        text("the other one first", gives(x, 2, 4), "0 0 0 3 0");
        due("no others", x.count(0), 6);
        due("a later CLAUSE by the other one first", rules(x, "b*c=a;c*b=d"), 2);
        text("the later one", gives(x, 1, 2), "0 0 0 1 0");
        text("the later one", gives(x, 2, 1), "0 0 0 1 0");
    }

    @Sentence(promise = 6, says = "none but those in it, beyond SIZE, too: 0;")
    static void othersBecomeNone() {
        FusionRules x = made(0, 5, 0);
        for (int place = 0; place < 80; place++) {
            x.tell(1 + place / 20, 1 + place / 5 % 4, place % 5, 9);
        }
        x.set(1, 2);
        due("one letter", rules(x, "b*b=2b"), 1);
        x.set(1, 5);
        text("those of no letter", gives(x, 1, 1), "0 2 0 0 0");
        text("another pair", gives(x, 1, 2), "9 9 9 9 9");
        x.set(1, 3);
        due("0", rules(x, "b*c=0"), 1);
        x.set(1, 5);
        text("none", gives(x, 1, 2), "0 0 0 0 0");
        text("none, the other one first", gives(x, 2, 1), "0 0 0 0 0");
        due("all others stay", x.count(0), 80 - 4 - 10);
    }

    @Sentence(promise = 6, says = "of a letter told again the numbers are added, 9 at most")
    static void lettersToldAgain() {
        FusionRules x = new FusionRules();
        rules(x, "b*b=a+b+a");
        text("1 and 1", gives(x, 1, 1), "2 1");
        rules(x, "b*b=4a+5a");
        text("just 9", gives(x, 1, 1), "9 0");
        rules(x, "b*b=5b+5b");
        text("10 becomes 9", gives(x, 1, 1), "0 9");
        rules(x, "b*b=9b+a+9b+9b+9b");
        text("36 becomes 9", gives(x, 1, 1), "1 9");
        rules(x, "b*b=9b+b");
        text("9 and 1", gives(x, 1, 1), "0 9");
        rules(x, "b*b=" + "b+".repeat(27) + "b");
        text("28 times 1", gives(x, 1, 1), "0 9");
        rules(x, "b*b=9a;b*b=9a");
        text("of another CLAUSE nothing is added", gives(x, 1, 1), "9 0");
        rules(x, "b*b=2a;b*b=3a");
        text("of another CLAUSE nothing is added", gives(x, 1, 1), "3 0");
    }

    @Sentence(promise = 6, says = "THE TAPE tells RULES: how many CLAUSES. -100 less the FAULT.")
    static void rulesWithFault() {
        FusionRules x = told(3, "b*b=a;b*c=c;c*c=a+b");
        String[] wrong = {"b*b=9b;b*b=1", "b*b=9b;", "b*b=9b+", "b*b=9bb", "c*b=0;c*c=0;d*b=0", "c*c=9c+d"};
        int[] place = {11, 7, 7, 6, 12, 7};
        for (int i = 0; i < wrong.length; i++) {
            due(wrong[i], rules(x, wrong[i]), -100 - place[i]);
            due("THE TAPE is empty", x.count(2), 0);
            text("of a CLAUSE ahead of the FAULT nothing is told", gives(x, 1, 1), "1 0 0");
            text("nor of others", gives(x, 1, 2), "0 0 1");
            text("nor of others", gives(x, 2, 2), "1 1 0");
        }
        due("by nothing", x.rules(), -100);
        due("by nothing again", x.rules(), -100);
        due("RULES", rules(x, "b*b=9b"), 1);
        text("told", gives(x, 1, 1), "0 9 0");
    }

    @Sentence(promise = 6, says = "0 TOLD: as THE TABLE tells")
    static void rulesByAnotherKind() {
        FusionRules x = made(1, 2, 0);
        due("RULES", rules(x, "b*b=9b"), 1);
        due("KIND stays", x.of(0), 1);
        text("as of CYCLE", gives(x, 1, 1), "1 0");
        x.set(0, 0);
        text("as told", gives(x, 1, 1), "0 9");
    }

    // ---- 11: element

    @Sentence(promise = 11, says = "FAULT likewise.")
    static void eachByteOfElement() {
        String term = FIGURES.substring(1) + "abc";
        String number = FIGURES + "abc";
        String[] allowed = {number, number, number, "+", term, "+", term, number, number, "abc", "+"};
        String[] ends = {"0abc", "abc", "abc", "", "abc", "", "abc", "abc", "abc", "abc", ""};
        eachByte(1, "12a+c+999b", allowed, ends);
        String text = "12a+c+999b";
        for (int length = 0; length < text.length(); length++) {
            if (length != 3 && length != 5) {
                fault(1, 3, text.substring(0, length), length);
            }
        }
        due("one TERM", read(1, 3, "12a"), 1);
        due("two TERMS", read(1, 3, "12a+c"), 2);
        due("three TERMS", read(1, 3, text), 3);
        fault(1, 3, "a+".repeat(30), 60);
        due("60 bytes that are whole", read(1, 3, "a+".repeat(28) + "10a"), 29);
        due("60 bytes that are whole", read(1, 3, "a+".repeat(28) + "100a"), 29);
    }

    @Sentence(promise = 11, says = "THE TAPE tells an ELEMENT: how many TERMS (0: a SUM of 0).")
    static void termsOfElement() {
        FusionRules x = made(0, 3, 0);
        due("a SUM of 0", element(x, 0, "0"), 0);
        text("nothing", row(x, 0), "0 0 0");
        due("one TERM", element(x, 0, "a"), 1);
        due("one letter twice: two TERMS", element(x, 0, "a+a"), 2);
        text("2", row(x, 0), "2 0 0");
        due("30 TERMS", element(x, 0, "a+".repeat(29) + "c"), 30);
        text("29 and 1", row(x, 0), "29 0 1");
        due("a SUM of 0 again", element(x, 0, "0"), 0);
        text("nothing again", row(x, 0), "0 0 0");
        fault(1, 3, "", 0);
        fault(1, 3, "00", 1);
        fault(1, 3, "0+a", 1);
        fault(1, 3, "a+0", 2);
        fault(1, 3, "a;", 1);
        fault(1, 3, "a;b", 1);
        fault(1, 3, "b*b=a", 1);
    }

    @Sentence(promise = 11, says = "numbers 999 at most: a figure or two more may stand behind the first one, 1 .. 9; so 1 is allowed too;")
    static void numbersOfElement() {
        FusionRules x = made(0, 2, 0);
        String[] numbers = {"1", "2", "9", "10", "19", "99", "100", "109", "190", "999"};
        for (String number : numbers) {
            due(number + "b", element(x, 2, number + "b"), 1);
            due("the number", x.has(2, 1), Integer.parseInt(number));
        }
        fault(1, 2, "0b", 1);
        fault(1, 2, "01b", 1);
        fault(1, 2, "001b", 1);
        fault(1, 2, "1000b", 3);
        fault(1, 2, "1234b", 3);
        fault(1, 2, "9999b", 3);
        fault(1, 2, "999", 3);
        fault(1, 2, "99+b", 2);
        fault(1, 2, ":b", 0);
        fault(1, 2, "/b", 0);
        fault(1, 2, "1:b", 1);
        fault(1, 2, "1/b", 1);
    }

    @Sentence(promise = 11, says = "of a letter told again they are added, 999 at most;")
    static void lettersOfElementToldAgain() {
        FusionRules x = made(0, 2, 0);
        element(x, 0, "500b+499b");
        text("just 999", row(x, 0), "0 999");
        element(x, 0, "500b+500b");
        text("1000 becomes 999", row(x, 0), "0 999");
        element(x, 0, "999b+a+999b+999b");
        text("2997 becomes 999", row(x, 0), "1 999");
        element(x, 0, "999a+a");
        text("999 and 1", row(x, 0), "999 0");
        element(x, 0, "5a");
        text("to what it had nothing is added", row(x, 0), "5 0");
    }

    @Sentence(promise = 11, says = "SORTS there are that are not told: 0)")
    static void sortsThatAreNotTold() {
        FusionRules x = made(0, 5, 0);
        element(x, 3, "9a+8b+7c+6d+5e");
        x.set(1, 3);
        due("one letter", element(x, 3, "2b"), 1);
        text("those there are", row(x, 3), "0 2 0");
        x.set(1, 5);
        text("those beyond SIZE stay", row(x, 3), "0 2 0 6 5");
        x.set(1, 4);
        due("0", element(x, 3, "0"), 0);
        x.set(1, 5);
        text("those beyond SIZE stay", row(x, 3), "0 0 0 0 5");
        text("other ELEMENTS stay", row(x, 2), "0 0 0 0 0");
    }

    @Sentence(promise = 11, says = "letters those of SORTS there are.")
    static void lettersOfElement() {
        for (int size = 1; size <= 5; size++) {
            char last = (char) ('a' + size - 1);
            due("a", read(1, size, "a"), 1);
            due("the last one", read(1, size, "999" + last), 1);
            fault(1, size, "" + (char) (last + 1), 0);
            fault(1, size, "9" + (char) (last + 1), 1);
            fault(1, size, "a+" + (char) (last + 1), 2);
            fault(1, size, "`", 0);
            fault(1, size, "A", 0);
        }
    }

    @Sentence(promise = 11, says = "NONE: element (THE TAPE stays); -100 less the FAULT.")
    static void elementNone() {
        FusionRules x = made(0, 3, 0);
        feed(x, "2b+7c");
        due("4", x.element(4), NONE);
        due("-1", x.element(-1), NONE);
        for (int odd : ODD) {
            due("element " + odd, x.element(odd), NONE);
        }
        due("THE TAPE stays", x.count(2), 5);
        due("read by the last ELEMENT", x.element(3), 2);
        text("as it was fed", row(x, 3), "0 2 7");
        due("THE TAPE is empty", x.count(2), 0);
        feed(x, "2b+d");
        due("NONE ahead of a FAULT", x.element(4), NONE);
        due("a FAULT", x.element(3), -103);
        due("THE TAPE is empty", x.count(2), 0);
        text("a FAULT changes nothing", row(x, 3), "0 2 7");
        due("by nothing", x.element(3), -100);
        text("that changes nothing", row(x, 3), "0 2 7");
        due("read by the first ELEMENT", element(x, 0, "a"), 1);
        text("the others stay", row(x, 3), "0 2 7");
    }
}
