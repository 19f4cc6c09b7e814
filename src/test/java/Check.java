/** Counts the answers that are not as due, and ends a test by it. */
final class Check {
    private final String name;
    private int asked = 0;
    private int wrong = 0;

    Check(String name) {
        this.name = name;
    }

    void due(String call, long got, long want) {
        asked++;
        if (got != want) {
            wrong++;
            System.out.println(name + ": " + call + " answered " + got + ", due is " + want);
        }
    }

    void fine(String what, boolean holds) {
        asked++;
        if (!holds) {
            wrong++;
            System.out.println(name + ": " + what);
        }
    }

    /** Puts a text's signs on the pad, which is wiped ahead. */
    static void album(StereoWar war, String text) {
        war.wipe();
        for (int i = 0; i < text.length(); i++) {
            war.say(text.charAt(i));
        }
    }

    void end() {
        System.out.println(name + ": " + asked + " asked, " + wrong + " wrong");
        if (wrong != 0 || asked == 0) {
            System.exit(1);
        }
    }
}
