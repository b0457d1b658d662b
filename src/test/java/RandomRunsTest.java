import java.util.Random;

/** Long runs of calls by fixed seeds, each answer or exception compared with the Model's. */
final class RandomRunsTest {
    private static final int RUNS = 400;
    private static final int CALLS = 512;
    private static final String[] ANSWERS = {"s", "s", "m", "m", "a"};
    private static final String[] CONDITIONS = {"r", "k", "f", "p", "c", "g"};
    private static final int[] DIGITS = {8, 4, 6, 4, 8, 0};
    private static final int[] EDGES = {
        Integer.MIN_VALUE, -2, -1, 0, 1, 3, 4, 5, 6, 7, 8, 11, 12, 15, 16, 19, 20, 60, 61, 99, 100, 255, 256,
        100000, 100001, Integer.MAX_VALUE,
    };

    /** Cases of step(): agreement, request, asks and asks again. */
    private static final int[] FILLERS = {8, 15, 21, 21};

    private final Random random;
    private final RecordRights rights = new RecordRights();
    private final Model model = new Model();
    private final Checks checks;
    private final int run;
    private final int persons;
    private final int records;
    private final int wrongPercent;
    private final boolean filling;
    private int day = 50;
    private int done = 0;

    private RandomRunsTest(Checks checks, int run) {
        this.checks = checks;
        this.run = run;
        random = new Random(run);
        persons = 1 + random.nextInt(run % 4 == 0 ? 12 : 3);
        records = 1 + random.nextInt(run % 4 == 0 ? 16 : 4);
        wrongPercent = run % 3 * 4;
        filling = run % 5 == 4;
    }

    public static void main(String[] args) {
        Checks checks = new Checks();
        for (int run = 0; run < RUNS; run++) {
            new RandomRunsTest(checks, run).go();
        }
        checks.end();
    }

    private void go() {
        for (int k = 0; k < persons; k++) {
            call("person", random.nextInt(256) & random.nextInt(256));
        }
        for (int k = 0; k < records; k++) {
            call("record", random.nextInt(4), random.nextInt(9) - 1);
        }
        if (filling) {
            openWide();
        }
        int rules = random.nextInt(12);
        for (int k = 0; k < rules; k++) {
            tell();
        }
        while (done < CALLS) {
            step();
        }
    }

    /** What is kept comes to its bounds only where little is absent and no limit is low. */
    private void openWide() {
        call("unit", 's', 0, 0, 0);
        call("rule");
        for (int k = 0; k < persons; k++) {
            call("limit", k, 60);
        }
    }

    private void step() {
        if (random.nextInt(100) < 5) {
            day = random.nextInt(100) < 90 ? Math.max(0, day + random.nextInt(41) - 15) : random.nextInt(100001);
            day = Math.min(day, 100000);
        }
        switch (filling && random.nextInt(3) > 0 ? FILLERS[random.nextInt(FILLERS.length)] : random.nextInt(24)) {
            case 0: tell(); break;
            case 1: call("unit", random.nextInt(), random.nextInt(3) == 0 ? random.nextInt() : 0, 0, 0); break;
            case 2: call("rule"); break;
            case 3: if (random.nextInt(4) == 0) { call("drop", below(8)); } break;
            case 4: if (random.nextInt(6) == 0) { call("person", random.nextInt(256)); } break;
            case 5: if (random.nextInt(6) == 0) { call("record", below(4), below(9) - 1); } break;
            case 6: call("value", below(records), below(6), number()); break;
            case 7: call("embargo", below(records), random.nextInt(3) == 0 ? near() : -1); break;
            case 8: call("agreement", below(persons), below(records), near(), near()); break;
            case 9: call("masked", below(records), below(6)); break;
            case 10: call("look", below(101), below(6)); break;
            case 11: call("looked", below(records), below(4)); break;
            case 12: case 13: call("export", below(persons), near()); break;
            case 14: call("exported", below(4)); break;
            case 15: case 16: call("request", below(persons), below(records), near()); break;
            case 17: call("limit", below(persons), below(7)); break;
            case 18: case 19: call("idle", near()); break;
            case 20: call("count", below(7)); break;
            default: call("asks", below(persons), below(records), below(6), below(4), near());
        }
    }

    /** Mostly a number that is good, now and then one of the edges. */
    private int below(int bound) {
        return random.nextInt(100) < wrongPercent ? EDGES[random.nextInt(EDGES.length)] : random.nextInt(bound);
    }

    private int near() {
        return random.nextInt(100) < wrongPercent
                ? EDGES[random.nextInt(EDGES.length)] : day - 1 + random.nextInt(3);
    }

    private long number() {
        return random.nextInt(5) == 0 ? Long.MIN_VALUE + random.nextInt(2) : random.nextLong() >> random.nextInt(64);
    }

    private void tell() {
        StringBuilder text = new StringBuilder(ANSWERS[random.nextInt(ANSWERS.length)]);
        int conditions = random.nextInt(random.nextInt(10) == 0 ? 14 : 4);
        for (int k = 0; k < conditions; k++) {
            int which = random.nextInt(CONDITIONS.length);
            text.append(random.nextInt(2) == 0 ? " " : " !").append(CONDITIONS[which]);
            if (DIGITS[which] > 0) {
                text.append(random.nextInt(DIGITS[which]));
            }
        }
        if (random.nextInt(8) == 0) {
            text.setLength(random.nextInt(text.length() + 1));
        }
        if (random.nextInt(8) == 0) {
            text.insert(random.nextInt(text.length() + 1), "!rkfpcg 0789sma".charAt(random.nextInt(15)));
        }
        for (int at = 0; at < text.length(); at += 16) {
            String all = text.toString();
            call("unit", Checks.word(all, at), Checks.word(all, at + 4),
                    Checks.word(all, at + 8), Checks.word(all, at + 12));
        }
        call("rule");
    }

    private void call(String name, long... x) {
        if (done >= CALLS) {
            return;
        }
        done++;
        String due = answer(name, x, true);
        String got = answer(name, x, false);
        StringBuilder told = new StringBuilder("run " + run + ", call " + done + ": " + name);
        for (long value : x) {
            told.append(' ').append(value);
        }
        checks.holds(told + " answered " + got + ", due is " + due, got.equals(due));
    }

    private String answer(String name, long[] x, boolean ofModel) {
        try {
            return Long.toString(ofModel ? model.call(name, x) : Calls.call(rights, name, x));
        } catch (RuntimeException e) {
            return e.getClass().getName();
        }
    }
}
