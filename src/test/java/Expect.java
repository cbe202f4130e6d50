/** Counts and tells the answers that are not the ones that are due. */
final class Expect {
    interface Asked {
        int answer();
    }

    private final String title;
    private int looks;
    private int wrong;

    Expect(String title) {
        this.title = title;
    }

    void same(String what, long due, long got) {
        look(what, Long.toString(due), Long.toString(got));
    }

    /** A call that throws where it must not is told by that, and the test goes on. */
    void answers(String what, long due, Asked asked) {
        look(what, Long.toString(due), Outcome.of(asked));
    }

    void look(String what, String due, String got) {
        looks++;
        if (!due.equals(got)) {
            wrong++;
            System.out.println(title + ": " + what + " answered " + got + ", due is " + due);
        }
    }

    /** The call throws this very class, none below it, and changes nothing of the desk. */
    void refused(String what, Desk desk, Class<? extends Exception> due, Asked asked) {
        String before = Outcome.stateOf(desk);
        look(what, due.getName(), Outcome.of(asked));
        look("the state after " + what, before, Outcome.stateOf(desk));
    }

    void end() {
        System.out.println(title + ": " + looks + " answers, " + wrong + " wrong");
        if (wrong != 0) {
            System.exit(1);
        }
    }
}
