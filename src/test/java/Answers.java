/** Compares answers with those that are due, and ends a test with exit code 1 if one differs. */
final class Answers {
    private final String name;
    private int looked = 0;
    private int wrong = 0;

    Answers(String name) {
        this.name = name;
    }

    void due(String call, long got, long want) {
        looked++;
        if (got != want) {
            wrong++;
            System.out.println(name + ": " + call + " answered " + got + ", due is " + want);
        }
    }

    void dueTrue(String what, boolean holds) {
        looked++;
        if (!holds) {
            wrong++;
            System.out.println(name + ": not so: " + what);
        }
    }

    boolean anyWrong() {
        return wrong > 0;
    }

    void end() {
        System.out.println(name + ": " + looked + " answers, " + wrong + " not as due");
        if (wrong > 0 || looked == 0) {
            System.exit(1);
        }
    }

    /** Empties the text and types another; answers nothing, since typing is looked at in tests of its own. */
    static void retype(AppendZones x, String text) {
        x.clearText();
        for (int i = 0; i < text.length(); i++) {
            x.type(text.charAt(i));
        }
    }

    static int followed(AppendZones x, String text) {
        retype(x, text);
        return x.follow();
    }
}
