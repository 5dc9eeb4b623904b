/** Counts answers that are not as due, and ends the program by them. */
final class Check {
    private String heading = "";
    private int asked = 0;
    private int wrong = 0;

    /** What stands ahead of each wrong answer from here on. */
    void under(String text) {
        heading = text;
    }

    void same(String call, long got, long due) {
        asked++;
        if (got != due) {
            wrong++;
            System.out.println(heading + call + " answered " + got + ", due is " + due);
        }
    }

    void holds(String what, boolean so) {
        same(what, so ? 1 : 0, 1);
    }

    int asked() {
        return asked;
    }

    void end(String name) {
        System.out.println(name + ": " + asked + " answers, " + wrong + " not as due");
        if (wrong > 0 || asked == 0) {
            System.exit(1);
        }
    }
}
