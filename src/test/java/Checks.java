import java.util.NoSuchElementException;

/** Compares answers with those that are due, prints each that differs, and ends with 1 if one did. */
final class Checks {
    interface Call {
        void run();
    }

    private int done = 0;
    private int wrong = 0;

    void equal(String call, long got, long due) {
        done++;
        if (got != due) {
            wrong++;
            System.out.println(call + " answered " + got + ", due is " + due);
        }
    }

    void holds(String what, boolean got) {
        equal(what, got ? 1 : 0, 1);
    }

    void fails(String what, boolean got) {
        equal(what, got ? 1 : 0, 0);
    }

    void noSuch(String what, Call call) {
        thrown(what, call, NoSuchElementException.class);
    }

    void badArgument(String what, Call call) {
        thrown(what, call, IllegalArgumentException.class);
    }

    void badState(String what, Call call) {
        thrown(what, call, IllegalStateException.class);
    }

    private void thrown(String what, Call call, Class<?> due) {
        done++;
        Class<?> got = null;
        try {
            call.run();
        } catch (RuntimeException e) {
            got = e.getClass();
        }
        if (got != due) {
            wrong++;
            System.out.println(what + " threw " + got + ", due is " + due);
        }
    }

    void end() {
        System.out.println(done + " checks, " + wrong + " wrong");
        if (wrong != 0 || done == 0) {
            System.exit(1);
        }
    }

    /** Puts a text behind the pad, sixteen signs a call. */
    static int write(RecordRights rights, String text) {
        int answer = rights.unit(0, 0, 0, 0);
        for (int at = 0; at < text.length(); at += 16) {
            answer = rights.unit(word(text, at), word(text, at + 4), word(text, at + 8), word(text, at + 12));
        }
        return answer;
    }

    static int rule(RecordRights rights, String text) {
        write(rights, text);
        return rights.rule();
    }

    static int word(String text, int from) {
        int word = 0;
        for (int k = 0; k < 4 && from + k < text.length(); k++) {
            word |= (text.charAt(from + k) & 255) << (8 * k);
        }
        return word;
    }
}
