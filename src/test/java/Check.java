/** Counts the calls whose answer is not the one that is due. */
final class Check {
    interface Call {
        Object answer();
    }

    interface Deed {
        void run();
    }

    private static final int SHOWN = 20;
    private static int wrong = 0;
    private static String about = "";

    private Check() {
    }

    /** What the next ones are about, to be told with each wrong answer. */
    static void about(String words) {
        about = words;
    }

    static void due(String what, Object got, Object want) {
        if (!want.equals(got)) {
            wrong++;
            if (wrong <= SHOWN) {
                System.out.println(about + what + " answered " + got + ", due is " + want);
            }
        }
    }

    /** The call must throw just this exception, not one of the machine's own below it. */
    static void refused(String what, Class<?> kind, Deed deed) {
        due(what, outcome(() -> {
            deed.run();
            return "nothing thrown";
        }), "throws." + kind.getSimpleName());
    }

    static void noSuch(String what, Deed deed) {
        refused(what, IndexOutOfBoundsException.class, deed);
    }

    static void outOfRange(String what, Deed deed) {
        refused(what, IllegalArgumentException.class, deed);
    }

    static void notNow(String what, Deed deed) {
        refused(what, IllegalStateException.class, deed);
    }

    /** The call's answer, or the name of what it throws behind "throws.". */
    static Object outcome(Call call) {
        try {
            return call.answer();
        } catch (RuntimeException thrown) {
            return "throws." + thrown.getClass().getSimpleName();
        }
    }

    static void end() {
        System.out.println(wrong == 0 ? "all answers are as due" : wrong + " answers are not as due");
        if (wrong != 0) {
            System.exit(1);
        }
    }
}
