import java.util.NoSuchElementException;

/** Counts and prints the calls whose answers are not those that are due. */
final class Due {
    interface Call {
        long answer();
    }

    interface Deed {
        void run();
    }

    private int asked = 0;
    private int wrong = 0;

    void is(String call, long got, long want) {
        asked++;
        if (got != want) {
            tell(call + " answered " + got + ", due is " + want);
        }
    }

    void isTrue(String call, boolean got) {
        is(call, got ? 1 : 0, 1);
    }

    void isFalse(String call, boolean got) {
        is(call, got ? 1 : 0, 0);
    }

    void noSuch(String call, Call what) {
        ends(call, what::answer, NoSuchElementException.class);
    }

    void illegal(String call, Call what) {
        ends(call, what::answer, IllegalArgumentException.class);
    }

    /** With null for the exception: it is due that nothing is thrown. */
    void ends(String call, Deed deed, Class<? extends RuntimeException> due) {
        asked++;
        Class<?> thrown = null;
        try {
            deed.run();
        } catch (RuntimeException e) {
            thrown = e.getClass();
        }
        if (thrown != due) {
            tell(call + " threw " + thrown + ", due is " + due);
        }
    }

    /** The call answers that, and nothing that can be seen of the object changes. */
    void refuses(String call, WaveWalk x, Call what, long want) {
        String ahead = Seen.of(x);
        is(call, what.answer(), want);
        isTrue(call + " changes nothing", ahead.equals(Seen.of(x)));
    }

    /** The call throws that, and nothing that can be seen of the object changes. */
    void refuses(String call, WaveWalk x, Deed deed, Class<? extends RuntimeException> want) {
        String ahead = Seen.of(x);
        ends(call, deed, want);
        isTrue(call + " changes nothing", ahead.equals(Seen.of(x)));
    }

    void tell(String what) {
        wrong++;
        System.out.println("WRONG: " + what);
    }

    int asked() {
        return asked;
    }

    int wrong() {
        return wrong;
    }

    /** Ends the program when an answer was wrong, or when nothing was asked. */
    void end() {
        System.out.println(asked + " answers looked at, " + wrong + " not as due");
        if (wrong != 0 || asked == 0) {
            System.exit(1);
        }
    }
}
