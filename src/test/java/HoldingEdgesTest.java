/** Promises 5 to 9 and 11: each sentence that names an edge has a test of its own. */
final class HoldingEdgesTest {
    private static final int NONE = RecordRights.NONE;
    private static final int ABSENT = RecordRights.ABSENT;
    private static final int MASKED = RecordRights.MASKED;
    private static final int SHOWN = RecordRights.SHOWN;
    private static final int LAST_DAY = 100000;

    private final Checks checks = new Checks();

    public static void main(String[] args) {
        HoldingEdgesTest test = new HoldingEdgesTest();
        test.personsAndRecords();
        test.valuesAndDays();
        test.checks.end();
    }

    private void personsAndRecords() {
        checks.sentence("A person with a set of roles, by bits: its number.", this::setOfRoles);
        checks.sentence("IllegalArgumentException: roles is not 0 .. 255.", this::wrongRoles);
        checks.sentence("IllegalStateException: there are twelve.", this::twelve);
        checks.sentence("A record: its number.", this::numbersOfRecords);
        checks.sentence("IllegalArgumentException: kind", this::wrongKind);
        checks.sentence("IllegalArgumentException: .. or community (NONE: of none).", this::wrongCommunity);
        checks.sentence("IllegalStateException: there are sixteen.", this::sixteen);
    }

    private void valuesAndDays() {
        checks.sentence("A field's value: what it was.", this::whatTheValueWas);
        checks.sentence("value: NoSuchElementException.", this::valueOfNone);
        checks.sentence("A record is under embargo up to a day, in place of another one", this::inPlaceOfAnother);
        checks.sentence("(NONE: it is not)", this::embargoOfNone);
        checks.sentence("embargo: what it was", this::whatTheEmbargoWas);
        checks.sentence("embargo: NoSuchElementException", this::embargoOfNoRecord);
        checks.sentence("embargo: IllegalArgumentException: day.", this::embargoOnWrongDay);
        checks.sentence("An agreement: how many there are.", this::howManyAgreements);
        checks.sentence("agreement: NoSuchElementException", this::agreementOfNone);
        checks.sentence("IllegalArgumentException: a day, or from is above to.", this::wrongAgreementDays);
        checks.sentence("IllegalStateException: there are 40.", this::forty);
        checks.sentence("A field's value, masked.", this::masked);
        checks.sentence("masked: NoSuchElementException.", this::maskedOfNone);
    }

    private void setOfRoles() {
        for (int roles = 0; roles < 256; roles++) {
            RecordRights rights = new RecordRights();
            checks.equal("roles " + roles, rights.person(roles), 0);
            rights.record(0, NONE);
            for (int role = 0; role < 8; role++) {
                Checks.rule(rights, "s f" + role % 6 + " p" + role / 6 + " r" + role);
                boolean has = (roles >> role) % 2 == 1;
                checks.equal("role " + role + " of " + roles, rights.asks(0, 0, role % 6, role / 6, 0),
                        has ? SHOWN : ABSENT);
            }
        }
    }

    private void wrongRoles() {
        RecordRights rights = new RecordRights();
        for (int roles : Checks.outside(0, 255)) {
            checks.badArgument("roles " + roles, () -> rights.person(roles));
        }
        checks.equal("persons", rights.count(3), 0);
        checks.equal("roles 0", rights.person(0), 0);
        checks.equal("roles 255", rights.person(255), 1);
    }

    private void twelve() {
        RecordRights rights = Checks.with(11, 0);
        checks.equal("the twelfth", rights.person(0), 11);
        checks.badState("a thirteenth", () -> rights.person(0));
        checks.badState("a thirteenth with all roles", () -> rights.person(255));
        checks.equal("persons", rights.count(3), 12);
    }

    private void numbersOfRecords() {
        RecordRights rights = Checks.with(1, 0, "m");
        for (int k = 0; k < 16; k++) {
            int next = k;
            checks.noSuch("record " + k + " is not yet", () -> rights.masked(next, 0));
            checks.equal("its number", rights.record(k % 4, k % 8), k);
            checks.equal("records", rights.count(4), k + 1);
            checks.equal("it is there", rights.asks(0, k, 0, 0, 0), MASKED);
        }
    }

    private void wrongKind() {
        RecordRights rights = new RecordRights();
        for (int kind : Checks.outside(0, 3)) {
            checks.badArgument("kind " + kind, () -> rights.record(kind, 0));
            checks.badArgument("kind " + kind + " of no community", () -> rights.record(kind, NONE));
        }
        checks.equal("records", rights.count(4), 0);
        checks.equal("kind 0", rights.record(0, 0), 0);
        checks.equal("kind 3", rights.record(3, 0), 1);
    }

    private void wrongCommunity() {
        RecordRights rights = new RecordRights();
        for (int community : Checks.outside(NONE, 7)) {
            checks.badArgument("community " + community, () -> rights.record(0, community));
        }
        checks.equal("records", rights.count(4), 0);
        checks.equal("NONE", rights.record(0, NONE), 0);
        checks.equal("community 0", rights.record(0, 0), 1);
        checks.equal("community 7", rights.record(0, 7), 2);
    }

    private void sixteen() {
        RecordRights rights = Checks.with(0, 15);
        checks.equal("the sixteenth", rights.record(3, 7), 15);
        checks.badState("a seventeenth", () -> rights.record(3, 7));
        checks.badState("a seventeenth of no community", () -> rights.record(0, NONE));
        checks.equal("records", rights.count(4), 16);
    }

    private void whatTheValueWas() {
        RecordRights rights = Checks.with(0, 16);
        long[] values = {Long.MIN_VALUE, Long.MAX_VALUE, -1, 0, 4294967296L, 7};
        for (int field = 0; field < 6; field += 5) {
            long before = 0;
            for (long v : values) {
                checks.equal("ahead of " + v, rights.value(15, field, v), before);
                before = v;
            }
            checks.equal("the same again", rights.value(15, field, before), before);
            checks.equal("stays", rights.value(15, field, 0), before);
        }
        checks.equal("another record's", rights.value(14, 5, 1), 0);
        checks.equal("another field's", rights.value(15, 1, 1), 0);
    }

    private void valueOfNone() {
        RecordRights none = new RecordRights();
        checks.noSuch("no records", () -> none.value(0, 0, 1));
        RecordRights rights = Checks.with(0, 16);
        for (int record : Checks.outside(0, 15)) {
            checks.noSuch("record " + record, () -> rights.value(record, 0, 1));
        }
        for (int field : Checks.outside(0, 5)) {
            checks.noSuch("field " + field, () -> rights.value(7, field, 1));
            checks.noSuch("field " + field + " of the last", () -> rights.value(15, field, 1));
        }
        for (int record = 0; record < 16; record++) {
            checks.equal("the first field of " + record, rights.value(record, 0, 1), 0);
            checks.equal("the last field of " + record, rights.value(record, 5, 1), 0);
        }
    }

    private void inPlaceOfAnother() {
        RecordRights rights = Checks.with(1, 1, "s");
        rights.embargo(0, 50);
        rights.embargo(0, 20);
        checks.equal("an earlier one holds", rights.asks(0, 0, 0, 0, 20), ABSENT);
        checks.equal("the later one no more", rights.asks(0, 0, 0, 0, 21), SHOWN);
        rights.embargo(0, 60);
        checks.equal("a later one holds", rights.asks(0, 0, 0, 0, 60), ABSENT);
        checks.equal("and ends", rights.asks(0, 0, 0, 0, 61), SHOWN);
    }

    private void embargoOfNone() {
        RecordRights rights = Checks.with(1, 2, "s");
        checks.equal("at first on day 0", rights.asks(0, 0, 0, 0, 0), SHOWN);
        rights.embargo(0, LAST_DAY);
        rights.embargo(1, 0);
        rights.embargo(0, NONE);
        rights.embargo(1, NONE);
        checks.equal("after the last day's", rights.asks(0, 0, 0, 0, LAST_DAY), SHOWN);
        checks.equal("after day 0's", rights.asks(0, 1, 0, 0, 0), SHOWN);
    }

    private void whatTheEmbargoWas() {
        RecordRights rights = Checks.with(0, 16);
        int[] days = {0, LAST_DAY, 1, NONE, NONE, 7};
        int before = NONE;
        for (int day : days) {
            checks.equal("ahead of " + day, rights.embargo(15, day), before);
            before = day;
        }
        checks.equal("another record's", rights.embargo(14, 3), NONE);
        checks.equal("it stays", rights.embargo(15, 8), 7);
    }

    private void embargoOfNoRecord() {
        RecordRights none = new RecordRights();
        checks.noSuch("no records", () -> none.embargo(0, 1));
        checks.noSuch("no records, NONE", () -> none.embargo(0, NONE));
        RecordRights rights = Checks.with(0, 16);
        for (int record : Checks.outside(0, 15)) {
            checks.noSuch("record " + record, () -> rights.embargo(record, 1));
        }
    }

    private void embargoOnWrongDay() {
        RecordRights rights = Checks.with(0, 1);
        rights.embargo(0, 5);
        for (int day : Checks.outside(NONE, LAST_DAY)) {
            checks.badArgument("day " + day, () -> rights.embargo(0, day));
        }
        checks.equal("what it was", rights.embargo(0, LAST_DAY), 5);
    }

    private void howManyAgreements() {
        RecordRights rights = Checks.with(2, 2);
        checks.equal("one", rights.agreement(0, 0, 0, 0), 1);
        checks.equal("of another person", rights.agreement(1, 0, 0, 0), 2);
        checks.equal("for another record", rights.agreement(0, 1, 0, 0), 3);
        checks.equal("the same again", rights.agreement(0, 0, 0, 0), 4);
        checks.equal("of days that are long over", rights.agreement(1, 1, LAST_DAY, LAST_DAY), 5);
    }

    private void agreementOfNone() {
        RecordRights nobody = Checks.with(0, 1);
        checks.noSuch("no persons", () -> nobody.agreement(0, 0, 0, 0));
        RecordRights nothing = Checks.with(1, 0);
        checks.noSuch("no records", () -> nothing.agreement(0, 0, 0, 0));
        RecordRights rights = Checks.with(12, 16);
        for (int person : Checks.outside(0, 11)) {
            checks.noSuch("person " + person, () -> rights.agreement(person, 0, 0, 0));
        }
        for (int record : Checks.outside(0, 15)) {
            checks.noSuch("record " + record, () -> rights.agreement(0, record, 0, 0));
        }
        checks.equal("none of them is there", rights.agreement(11, 15, 0, 0), 1);
    }

    private void wrongAgreementDays() {
        RecordRights rights = Checks.with(1, 1);
        for (int day : Checks.outside(0, LAST_DAY)) {
            checks.badArgument("from " + day, () -> rights.agreement(0, 0, day, LAST_DAY));
            checks.badArgument("to " + day, () -> rights.agreement(0, 0, 0, day));
            checks.badArgument("both " + day, () -> rights.agreement(0, 0, day, day));
        }
        checks.badArgument("from 1 to 0", () -> rights.agreement(0, 0, 1, 0));
        checks.badArgument("from the last day to 0", () -> rights.agreement(0, 0, LAST_DAY, 0));
        checks.badArgument("from the last to the one ahead", () -> rights.agreement(0, 0, LAST_DAY, LAST_DAY - 1));
        checks.badArgument("the whole range of int", () ->
                rights.agreement(0, 0, Integer.MIN_VALUE, Integer.MAX_VALUE));
        checks.equal("from 0 to 0", rights.agreement(0, 0, 0, 0), 1);
        checks.equal("from the last to the last", rights.agreement(0, 0, LAST_DAY, LAST_DAY), 2);
        checks.equal("from 0 to the last", rights.agreement(0, 0, 0, LAST_DAY), 3);
        checks.equal("from 0 to 1", rights.agreement(0, 0, 0, 1), 4);
    }

    private void forty() {
        RecordRights rights = Checks.with(12, 16, "m", "s g");
        for (int k = 1; k < 40; k++) {
            rights.agreement(k % 11, k % 15, 5, 5);
        }
        checks.equal("the 40th", rights.agreement(11, 15, 5, 5), 40);
        checks.badState("a 41st", () -> rights.agreement(11, 14, 5, 5));
        checks.badState("one that is there already", () -> rights.agreement(11, 15, 5, 5));
        checks.equal("the 40th holds", rights.asks(11, 15, 0, 0, 5), SHOWN);
        checks.equal("the 41st does not", rights.asks(11, 14, 0, 0, 5), MASKED);
    }

    private void masked() {
        RecordRights rights = Checks.with(0, 16);
        for (int k = 0; k < 96; k++) {
            rights.value(k / 6, k % 6, k % 2 == 0 ? 1000L * k + 999 : -1000L * k - 999);
        }
        for (int k = 0; k < 96; k++) {
            long due = k % 2 == 0 ? 1000L * k : -1000L * k;
            checks.equal("field " + k % 6 + " of " + k / 6, rights.masked(k / 6, k % 6), due);
            checks.equal("again", rights.masked(k / 6, k % 6), due);
        }
        checks.equal("the value is whole yet", rights.value(15, 4, 0), 94999);
    }

    private void maskedOfNone() {
        RecordRights none = new RecordRights();
        checks.noSuch("no records", () -> none.masked(0, 0));
        RecordRights rights = Checks.with(0, 16);
        for (int record : Checks.outside(0, 15)) {
            checks.noSuch("record " + record, () -> rights.masked(record, 0));
        }
        for (int field : Checks.outside(0, 5)) {
            checks.noSuch("field " + field, () -> rights.masked(7, field));
            checks.noSuch("field " + field + " of the last", () -> rights.masked(15, field));
        }
    }
}
