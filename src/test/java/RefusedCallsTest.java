import java.util.ArrayList;
import java.util.List;
import java.util.NoSuchElementException;
import java.util.function.Consumer;
import java.util.function.ToLongFunction;

/**
 * "Such a call changes nothing": of two objects that are made alike, one has a call refused. Whatever both are asked
 * then, they answer alike. An object makes some 330 calls until it is full, and at most 130 more here.
 */
final class RefusedCallsTest {
    private static final int NONE = RecordRights.NONE;
    private static final int DAY = 50;
    private static final int LAST_DAY = 100000;
    private static final int TIMES = 3;
    private static final Class<?> NO_SUCH = NoSuchElementException.class;
    private static final Class<?> ARGUMENT = IllegalArgumentException.class;
    private static final Class<?> STATE = IllegalStateException.class;

    private final Checks checks = new Checks();
    private boolean full;
    private int persons = 3;
    private int records = 3;
    private int rules = 4;
    private int looks = 3;

    public static void main(String[] args) {
        RefusedCallsTest test = new RefusedCallsTest();
        test.refusedEver();
        test.fill(19);
        test.refusedEver();
        test.refusedFull();
        test.fill(20);
        test.refusedEver();
        test.refusedFull();
        test.refused("rule, the 21st", STATE, x -> x.rule());
        test.checks.end();
    }

    /** With 19 rules there is room for one more, by which the pad's signs can be told. */
    private void fill(int manyRules) {
        full = true;
        persons = 12;
        records = 16;
        rules = manyRules;
        looks = 100;
    }

    private void refusedEver() {
        checks.sentence("the object is made as told", this::madeAsTold);
        rulesAndPersons();
        valuesAndEmbargoes();
        agreements();
        asksAndLooks();
        exportsAndRequests();
        limitsAndCounts();
    }

    private void rulesAndPersons() {
        refused("unit, sixteen signs too many", STATE, x -> x.unit(-1, -1, -1, -1));
        refused("drop, below", NO_SUCH, x -> x.drop(-1));
        refused("drop, above", NO_SUCH, x -> x.drop(rules));
        refused("person, below", ARGUMENT, x -> x.person(-1));
        refused("person, above", ARGUMENT, x -> x.person(256));
        refused("record, kind below", ARGUMENT, x -> x.record(-1, 0));
        refused("record, kind above", ARGUMENT, x -> x.record(4, 0));
        refused("record, community below", ARGUMENT, x -> x.record(0, -2));
        refused("record, community above", ARGUMENT, x -> x.record(0, 8));
    }

    private void valuesAndEmbargoes() {
        refused("value, record below", NO_SUCH, x -> x.value(-1, 5, 4711));
        refused("value, record above", NO_SUCH, x -> x.value(records, 0, 4711));
        refused("value, field below", NO_SUCH, x -> x.value(1, -1, 4711));
        refused("value, field above", NO_SUCH, x -> x.value(1, 6, 4711));
        refused("embargo, record below", NO_SUCH, x -> x.embargo(-1, DAY));
        refused("embargo, record above", NO_SUCH, x -> x.embargo(records, DAY));
        refused("embargo, day below", ARGUMENT, x -> x.embargo(1, -2));
        refused("embargo, day above", ARGUMENT, x -> x.embargo(1, LAST_DAY + 1));
        refused("masked, record above", NO_SUCH, x -> x.masked(records, 0));
        refused("masked, field above", NO_SUCH, x -> x.masked(1, 6));
    }

    private void agreements() {
        refused("agreement, person below", NO_SUCH, x -> x.agreement(-1, 1, 0, LAST_DAY));
        refused("agreement, person above", NO_SUCH, x -> x.agreement(persons, 1, 0, LAST_DAY));
        refused("agreement, record below", NO_SUCH, x -> x.agreement(1, -1, 0, LAST_DAY));
        refused("agreement, record above", NO_SUCH, x -> x.agreement(1, records, 0, LAST_DAY));
        refused("agreement, from below", ARGUMENT, x -> x.agreement(1, 1, -1, LAST_DAY));
        refused("agreement, from above", ARGUMENT, x -> x.agreement(1, 1, LAST_DAY + 1, LAST_DAY + 1));
        refused("agreement, to below", ARGUMENT, x -> x.agreement(1, 1, -1, -1));
        refused("agreement, to above", ARGUMENT, x -> x.agreement(1, 1, 0, LAST_DAY + 1));
        refused("agreement, from above to", ARGUMENT, x -> x.agreement(1, 1, DAY + 1, DAY));
    }

    private void asksAndLooks() {
        refused("asks, person below", NO_SUCH, x -> x.asks(-1, 1, 0, 0, DAY));
        refused("asks, person above", NO_SUCH, x -> x.asks(persons, 1, 0, 0, DAY));
        refused("asks, record below", NO_SUCH, x -> x.asks(1, -1, 0, 0, DAY));
        refused("asks, record above", NO_SUCH, x -> x.asks(1, records, 0, 0, DAY));
        refused("asks, field below", NO_SUCH, x -> x.asks(1, 1, -1, 0, DAY));
        refused("asks, field above", NO_SUCH, x -> x.asks(1, 1, 6, 0, DAY));
        refused("asks, purpose below", NO_SUCH, x -> x.asks(1, 1, 0, -1, DAY));
        refused("asks, purpose above", NO_SUCH, x -> x.asks(1, 1, 0, 4, DAY));
        refused("asks, day below", ARGUMENT, x -> x.asks(1, 1, 0, 0, -1));
        refused("asks, day above", ARGUMENT, x -> x.asks(1, 1, 0, 0, LAST_DAY + 1));
        refused("look, below", NO_SUCH, x -> x.look(-1, 0));
        refused("look, above", NO_SUCH, x -> x.look(looks, 0));
        refused("look, what below", NO_SUCH, x -> x.look(0, -1));
        refused("look, what above", NO_SUCH, x -> x.look(0, 6));
        refused("looked, record above", NO_SUCH, x -> x.looked(records, 0));
        refused("looked, k below", NO_SUCH, x -> x.looked(1, -1));
    }

    private void exportsAndRequests() {
        refused("export, person below", NO_SUCH, x -> x.export(-1, DAY));
        refused("export, person above", NO_SUCH, x -> x.export(persons, DAY));
        refused("export, day below", ARGUMENT, x -> x.export(1, -1));
        refused("export, day above", ARGUMENT, x -> x.export(1, LAST_DAY + 1));
        refused("exported, below", NO_SUCH, x -> x.exported(-1));
        refused("exported, above", NO_SUCH, x -> x.exported(16));
        refused("request, person below", NO_SUCH, x -> x.request(-1, 1, DAY));
        refused("request, person above", NO_SUCH, x -> x.request(persons, 1, DAY));
        refused("request, record below", NO_SUCH, x -> x.request(1, -1, DAY));
        refused("request, record above", NO_SUCH, x -> x.request(1, records, DAY));
        refused("request, day below", ARGUMENT, x -> x.request(1, 1, -1));
        refused("request, day above", ARGUMENT, x -> x.request(1, 1, LAST_DAY + 1));
    }

    private void limitsAndCounts() {
        refused("limit, person below", NO_SUCH, x -> x.limit(-1, 9));
        refused("limit, person above", NO_SUCH, x -> x.limit(persons, 9));
        refused("limit, below", ARGUMENT, x -> x.limit(1, -1));
        refused("limit, above", ARGUMENT, x -> x.limit(1, 61));
        refused("idle, day below", ARGUMENT, x -> x.idle(-1));
        refused("idle, day above", ARGUMENT, x -> x.idle(LAST_DAY + 1));
        refused("count, below", ARGUMENT, x -> x.count(-1));
        refused("count, above", ARGUMENT, x -> x.count(7));
    }

    private void refusedFull() {
        refused("unit, one sign too many", STATE, x -> x.unit(0, 0, 0, 's'));
        refused("person, the 13th", STATE, x -> x.person(255));
        refused("record, the 17th", STATE, x -> x.record(3, 7));
        refused("agreement, the 41st", STATE, x -> x.agreement(1, 1, 0, LAST_DAY));
        refused("request, the 61st", STATE, x -> x.request(1, 1, LAST_DAY));
        refused("request, the 61st, that is too many", STATE, x -> x.request(0, 0, DAY));
    }

    private void refused(String what, Class<?> due, Consumer<RecordRights> call) {
        String named = what + (full ? ", full, rules: " : ", begun, rules: ") + rules;
        checks.sentence("Such a call changes nothing: " + named, () -> {
            for (int part = 0; part < 5; part++) {
                RecordRights spared = make();
                RecordRights rights = make();
                for (int k = 0; k < TIMES; k++) {
                    checks.thrown(named, () -> call.accept(rights), due);
                }
                compare(answers(rights, part), answers(spared, part), part);
            }
        });
    }

    private void compare(List<Long> got, List<Long> due, int part) {
        checks.equal("answers", got.size(), due.size());
        for (int k = 0; k < due.size(); k++) {
            checks.equal("answer " + k + " of part " + part, got.get(k), due.get(k));
        }
    }

    private void madeAsTold() {
        RecordRights rights = make();
        int[] due = {full ? 40 : 26, rules, full ? rules - 2 : 3, persons, records, looks, full ? 60 : 3};
        for (int what = 0; what < due.length; what++) {
            checks.equal("count(" + what + ")", rights.count(what), due[what]);
        }
        if (full) {
            checks.badState("agreements", () -> rights.agreement(0, 0, 0, 0));
        } else {
            checks.equal("agreements", rights.agreement(0, 0, 0, 0), 4);
        }
        checks.thrown("a record is exported", () -> rights.exported(0), null);
    }

    private RecordRights make() {
        return full ? makeFull() : makeBegun();
    }

    /** Some of everything, and room for more; 26 signs on the pad. */
    private static RecordRights makeBegun() {
        RecordRights rights = Checks.with(0, 0, "s !f5", "m k1", "s g", "a f5 r0", "s r9");
        for (int k = 0; k < 3; k++) {
            rights.person(k == 2 ? 129 : k);
            rights.record(k, k - 1);
        }
        for (int k = 0; k < 3; k++) {
            rights.value(k, 5, 1000 * k + 1);
            rights.agreement(k, 2 - k, DAY - k, DAY + k);
            rights.asks(k, k, 0, 1, DAY);
            rights.request(k, 0, DAY);
        }
        rights.embargo(2, DAY - 1);
        rights.limit(0, 2);
        rights.drop(2);
        rights.export(0, DAY);
        Checks.write(rights, "s r0 k0 f0 p0 c0 !r1 !k1 !");
        return rights;
    }

    private RecordRights makeFull() {
        RecordRights rights = new RecordRights();
        for (int k = 0; k < rules; k++) {
            Checks.rule(rights, k < 2 ? "s" : k % 5 == 4 ? "a g k" + k % 4 : "m r" + k % 8 + " f" + k % 6);
        }
        for (int k = 0; k < 16; k++) {
            rights.record(k % 4, k % 9 - 1);
            rights.value(k, k % 6, 12345L * k);
        }
        for (int k = 0; k < 12; k++) {
            rights.person(21 * k);
            rights.limit(k, 5);
        }
        for (int k = 0; k < 40; k++) {
            rights.agreement(k % 12, k % 16, k, DAY + k);
        }
        for (int k = 0; k < 60; k++) {
            rights.request(k % 12, k % 16, DAY);
        }
        for (int k = 0; k < 100; k++) {
            rights.asks(k % 12, k % 16, k % 6, k % 4, LAST_DAY);
        }
        rights.embargo(1, DAY);
        rights.drop(1);
        rights.drop(rules - 1);
        rights.export(1, DAY);
        Checks.write(rights, "s r0 k0 f0 p0 c0 !r1 !k1 !f1 !p1 !c1 g g");
        return rights;
    }

    private static List<Long> answers(RecordRights rights, int part) {
        List<Long> answers = new ArrayList<>();
        for (int what = 0; what < 7; what++) {
            int at = what;
            tell(answers, rights, x -> x.count(at));
        }
        switch (part) {
            case 0: looksAndExport(answers, rights); break;
            case 1: values(answers, rights); break;
            case 2: gets(answers, rights); break;
            case 3: limitsAndRequests(answers, rights); break;
            default: roomAndPad(answers, rights);
        }
        return answers;
    }

    private static void tell(List<Long> answers, RecordRights rights, ToLongFunction<RecordRights> call) {
        long answer;
        try {
            answer = call.applyAsLong(rights);
        } catch (NoSuchElementException e) {
            answer = -1001;
        } catch (IllegalArgumentException e) {
            answer = -1002;
        } catch (IllegalStateException e) {
            answer = -1003;
        }
        answers.add(answer);
    }

    private static void looksAndExport(List<Long> answers, RecordRights rights) {
        for (int k = 0; k < 16; k++) {
            int at = k;
            tell(answers, rights, x -> x.exported(at));
            tell(answers, rights, x -> x.looked(at, 0));
            tell(answers, rights, x -> x.looked(1, at));
        }
        int[] looks = {0, 1, 2, 3, 98, 99, 100};
        for (int look : looks) {
            for (int what = 0; what < 6; what++) {
                int at = what;
                tell(answers, rights, x -> x.look(look, at));
            }
        }
    }

    private static void values(List<Long> answers, RecordRights rights) {
        for (int k = 0; k < 96; k++) {
            int at = k;
            tell(answers, rights, x -> x.value(at / 6, at % 6, 0));
        }
        for (int k = 0; k < 16; k++) {
            int at = k;
            tell(answers, rights, x -> x.embargo(at, NONE));
        }
    }

    private static void gets(List<Long> answers, RecordRights rights) {
        for (int k = 0; k < 48; k++) {
            int at = k;
            tell(answers, rights, x -> x.asks(at % 12, at % 16, at % 6, at % 4, DAY));
            tell(answers, rights, x -> x.asks(1, 1, at % 6, at / 6 % 4, at < 24 ? DAY : LAST_DAY));
        }
        tell(answers, rights, x -> x.idle(DAY));
        for (int k = 0; k < 12; k++) {
            int at = k;
            tell(answers, rights, x -> x.export(at, DAY));
        }
    }

    private static void limitsAndRequests(List<Long> answers, RecordRights rights) {
        for (int k = 0; k < 12; k++) {
            int at = k;
            tell(answers, rights, x -> x.request(at, at, DAY));
            tell(answers, rights, x -> x.request(at, at, LAST_DAY));
            tell(answers, rights, x -> x.limit(at, 4));
        }
        for (int k = 0; k < 20; k++) {
            int at = k;
            tell(answers, rights, x -> x.drop(at) ? 1 : 0);
        }
    }

    /** The pad is whole only if its signs are as they were; then there is room for as many as before. */
    private static void roomAndPad(List<Long> answers, RecordRights rights) {
        tell(answers, rights, x -> x.count(0) < 40 ? x.unit('g', 0, 0, 0) : 40);
        tell(answers, rights, RecordRights::rule);
        tell(answers, rights, x -> x.count(0));
        tell(answers, rights, x -> x.agreement(0, 0, 0, 0));
        tell(answers, rights, x -> x.person(0));
        tell(answers, rights, x -> x.record(0, 0));
        for (int k = 0; k < 20; k++) {
            tell(answers, rights, x -> x.unit('s', 0, 0, 0));
            tell(answers, rights, RecordRights::rule);
        }
        for (int k = 0; k < 24; k++) {
            int at = k;
            tell(answers, rights, x -> x.asks(0, 0, at % 6, at / 6, DAY));
        }
    }
}
