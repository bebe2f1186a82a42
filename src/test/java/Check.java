/** Compares answers with those that are due, and ends a test with exit code 1 if one was wrong. */
final class Check {
    static final Class<IndexOutOfBoundsException> INDEX = IndexOutOfBoundsException.class;
    static final Class<IllegalArgumentException> ARGUMENT = IllegalArgumentException.class;
    static final Class<IllegalStateException> STATE = IllegalStateException.class;

    interface Call {
        void make();
    }

    private int wrong;
    private String sentence = "";

    /** The sentence of the document that the next answers are due by. */
    void sentence(String text) {
        sentence = text;
    }

    void due(String what, long got, long want) {
        if (got != want) {
            report(what + " answered " + got + ", due is " + want);
        }
    }

    void due(String what, boolean got, boolean want) {
        if (got != want) {
            report(what + " answered " + got + ", due is " + want);
        }
    }

    void due(String what, double got, double want) {
        if (got != want) {
            report(what + " answered " + got + ", due is " + want);
        }
    }

    /** The call throws exactly that class, and leaves the tower as it was. */
    void dueThrow(String what, FlyTower tower, Class<?> want, Call call) {
        long before = tower.digest();
        Class<?> got = thrownBy(call);
        if (got != want) {
            report(what + " threw " + got + ", due is " + want);
        }
        if (tower.digest() != before) {
            report(what + " threw, but changed something");
        }
    }

    static Class<?> thrownBy(Call call) {
        try {
            call.make();
        } catch (RuntimeException e) {
            return e.getClass();
        }
        return null;
    }

    void report(String text) {
        wrong++;
        System.out.println(sentence.isEmpty() ? text : text + " [" + sentence + "]");
    }

    void end() {
        System.out.println(wrong == 0 ? "all answers are as due" : wrong + " answers are not as due");
        if (wrong != 0) {
            System.exit(1);
        }
    }
}
