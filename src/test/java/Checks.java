import java.util.NoSuchElementException;

/** Compares answers with those that are due, prints each that differs, and ends with 1 if one did. */
final class Checks {
    interface Call {
        void run();
    }

    private int done = 0;
    private int wrong = 0;
    private String under = "";

    /** One test of one sentence of the document: what goes wrong in it is told under that sentence. */
    void sentence(String text, Call test) {
        int before = done;
        under = "[" + text + "] ";
        try {
            test.run();
        } catch (RuntimeException e) {
            tell("ended with " + e);
        }
        if (done == before) {
            tell("nothing was checked");
        }
        under = "";
    }

    private void tell(String what) {
        wrong++;
        System.out.println(under + what);
    }

    void equal(String call, long got, long due) {
        done++;
        if (got != due) {
            tell(call + " answered " + got + ", due is " + due);
        }
    }

    void holds(String what, boolean got) {
        equal(what, got ? 1 : 0, 1);
    }

    void fails(String what, boolean got) {
        equal(what, got ? 1 : 0, 0);
    }

    void noSuch(String what, Call call) {
        thrown(what, call, NoSuchElementException.class);
    }

    void badArgument(String what, Call call) {
        thrown(what, call, IllegalArgumentException.class);
    }

    void badState(String what, Call call) {
        thrown(what, call, IllegalStateException.class);
    }

    void thrown(String what, Call call, Class<?> due) {
        done++;
        Class<?> got = null;
        try {
            call.run();
        } catch (RuntimeException e) {
            got = e.getClass();
        }
        if (got != due) {
            tell(what + " threw " + got + ", due is " + due);
        }
    }

    void end() {
        System.out.println(done + " checks, " + wrong + " wrong");
        if (wrong != 0 || done == 0) {
            System.exit(1);
        }
    }

    /** Puts a text behind the pad, sixteen signs a call. */
    static int write(RecordRights rights, String text) {
        int answer = rights.unit(0, 0, 0, 0);
        for (int at = 0; at < text.length(); at += 16) {
            answer = rights.unit(word(text, at), word(text, at + 4), word(text, at + 8), word(text, at + 12));
        }
        return answer;
    }

    static int rule(RecordRights rights, String text) {
        write(rights, text);
        return rights.rule();
    }

    /** Persons without roles, records of kind 0 and of no community, and rules. */
    static RecordRights with(int persons, int records, String... texts) {
        RecordRights rights = new RecordRights();
        for (int k = 0; k < persons; k++) {
            rights.person(0);
        }
        for (int k = 0; k < records; k++) {
            rights.record(0, RecordRights.NONE);
        }
        for (String text : texts) {
            rule(rights, text);
        }
        return rights;
    }

    /** Numbers below and above a range, near to it and as far as an int goes. */
    static int[] outside(int low, int high) {
        return new int[] {
            Integer.MIN_VALUE, Integer.MIN_VALUE + high, low - 1, high + 1, high + 256, Integer.MAX_VALUE - high,
            Integer.MAX_VALUE,
        };
    }

    static int word(String text, int from) {
        int word = 0;
        for (int k = 0; k < 4 && from + k < text.length(); k++) {
            word |= (text.charAt(from + k) & 255) << (8 * k);
        }
        return word;
    }
}
