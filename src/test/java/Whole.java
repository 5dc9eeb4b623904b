/** An object that holds something in all that it can hold, and all that can be seen of one; less than 512 calls each. */
final class Whole extends Runs {
    private Whole() {
    }

    static FusionRules made() {
        FusionRules x = made(3, 5, 4);
        x.tell(4, 4, 4, 6);
        x.tell(1, 1, 0, 5);
        x.give(0, 0, 77);
        x.give(3, 4, 44);
        x.table(4, 4, 9);
        x.twist(4, 8);
        x.plan(2, 2);
        x.image();
        x.set(0, 0);
        x.set(1, 3);
        x.set(2, 5);
        rules(x, "b*b=a;b*c=c;c*c=a+b");
        x.tell(4, 1, 2, 7);
        element(x, 0, "2a+b+10c");
        element(x, 1, "c");
        element(x, 2, "999c");
        x.table(0, 0, 1);
        x.table(0, 1, 2);
        x.table(1, 2, 3);
        x.table(3, 3, 29);
        x.twist(0, 1);
        x.twist(2, 30);
        x.plan(-1, 0);
        x.plan(0, 1);
        x.plan(1, 2);
        x.plan(1, 4);
        x.plan(2, 3);
        x.write(0);
        x.list(0, 12);
        x.put(0, 0, 1);
        x.put(0, 11, Long.MAX_VALUE);
        x.list(1, 0);
        x.list(2, 3);
        x.put(2, 2, -5);
        feed(x, "b+2c");
        return x;
    }

    /** All that THE IMAGE keeps; the object is spoilt behind it. */
    static String held(FusionRules x) {
        StringBuilder text = new StringBuilder();
        for (int what = 0; what < 3; what++) {
            text.append(x.of(what)).append(' ');
        }
        text.append(x.count(0)).append(' ').append(x.count(1)).append(' ').append(x.count(4));
        x.set(1, 5);
        for (int element = 0; element < 4; element++) {
            text.append("\nelement ").append(row(x, element)).append("\nends");
            for (int k = 0; k < 5; k++) {
                text.append(' ').append(x.ends(element, k));
            }
        }
        for (int i = 0; i < 5; i++) {
            text.append("\ntwist ").append(x.twist(i, 0)).append("\ntable");
            for (int m = 0; m < 5; m++) {
                text.append(' ').append(x.table(i, m, 0));
            }
        }
        for (int place = 0; place < 80; place++) {
            text.append(place % 5 == 0 ? "\ntold" : "").append(' ').append(x.tell(1 + place / 20, 1 + place / 5 % 4, place % 5, 0));
        }
        return text.toString();
    }

    /** THE PAPER and LISTS; nothing is changed. */
    static String paperAndLists(FusionRules x) {
        StringBuilder text = new StringBuilder("paper");
        for (int i = 0; i < 25; i++) {
            text.append(' ').append(x.paper(i));
        }
        for (int list = 0; list < 4; list++) {
            text.append("\nlist");
            for (int i = 0; i < 13; i++) {
                text.append(' ').append(x.get(list, i));
            }
        }
        return text.toString();
    }

    /** THE TAPE, as an ELEMENT if it tells one; it is empty behind it. */
    static String tape(FusionRules x) {
        x.set(1, 5);
        return x.count(2) + " bytes: " + x.element(0) + " " + row(x, 0);
    }

    static String image(FusionRules x) {
        return "undo " + x.undo() + "\n" + held(x);
    }
}
