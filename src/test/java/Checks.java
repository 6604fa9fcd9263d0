/** Compares answers with what is due; an exception's class is due where a call must throw. */
final class Checks {
    interface Call {
        Object make();
    }

    private int wrong = 0;
    private int made = 0;
    private String prefix = "";

    /** What is found wrong from here on is told with the name of its case. */
    void begin(String caseName) {
        prefix = caseName + ": ";
    }

    void due(String call, Object want, Call made) {
        same(call, want, answerOf(made));
    }

    void same(String what, Object want, Object got) {
        made++;
        if (!want.equals(got)) {
            wrong++;
            System.out.println(prefix + what + " answered " + got + ", due is " + want);
        }
    }

    /** The very class is taken, so that what the machine throws is never mistaken for ours. */
    static Object answerOf(Call call) {
        try {
            return call.make();
        } catch (RuntimeException e) {
            return e.getClass();
        }
    }

    int wrong() {
        return wrong;
    }

    int made() {
        return made;
    }

    void finish(String name) {
        System.out.println(name + ": " + made + " answers, " + wrong + " not as due");
        if (wrong != 0 || made == 0) {
            System.exit(1);
        }
    }
}
