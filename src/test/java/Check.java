/** Counts answers that are not as due, and ends the program by them. */
final class Check {
    interface Call {
        long answer();
    }

    interface Deed {
        void happen();
    }

    private static int asked = 0;
    private static int wrong = 0;

    private Check() {
    }

    static void due(String what, long got, long want) {
        asked++;
        if (got != want) {
            fault(what + " answered " + got + ", due is " + want);
        }
    }

    static void due(String what, boolean got, boolean want) {
        due(what, got ? 1 : 0, want ? 1 : 0);
    }

    static void fault(String text) {
        wrong++;
        System.out.println(text);
    }

    static void throwsDue(String what, Class<? extends RuntimeException> want, Deed deed) {
        asked++;
        try {
            deed.happen();
        } catch (RuntimeException e) {
            if (e.getClass() != want) {
                fault(what + " threw " + e.getClass().getSimpleName() + ", due is " + want.getSimpleName());
            }
            return;
        }
        fault(what + " threw nothing, due is " + want.getSimpleName());
    }

    static void end(String name) {
        System.out.println(name + ": " + asked + " answers asked, " + wrong + " not as due");
        if (wrong != 0 || asked == 0) {
            System.exit(1);
        }
    }
}
