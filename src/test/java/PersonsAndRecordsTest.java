/** Promises 5 to 9 and 11: person, record, value, embargo, agreement, masked. */
final class PersonsAndRecordsTest {
    public static void main(String[] args) {
        Checks checks = new Checks();
        persons(checks);
        records(checks);
        values(checks);
        maskedValues(checks);
        embargoes(checks);
        agreements(checks);
        checks.end();
    }

    private static void persons(Checks checks) {
        RecordRights rights = new RecordRights();
        checks.badArgument("person(-1)", () -> rights.person(-1));
        checks.badArgument("person(256)", () -> rights.person(256));
        for (int k = 0; k < 12; k++) {
            checks.equal("person " + k, rights.person(k == 0 ? 255 : 0), k);
        }
        checks.badState("person 12", () -> rights.person(0));
        checks.badArgument("roles are looked at first", () -> rights.person(256));
        checks.equal("count(3)", rights.count(3), 12);
        for (int role = 0; role < 8; role++) {
            hasRole(checks, role);
        }
    }

    private static void hasRole(Checks checks, int role) {
        RecordRights rights = new RecordRights();
        rights.person(1 << role);
        rights.person(255 ^ 1 << role);
        rights.record(0, 0);
        Checks.rule(rights, "s r" + role);
        checks.equal("with role " + role, rights.asks(0, 0, 0, 0, 0), RecordRights.SHOWN);
        checks.equal("without role " + role, rights.asks(1, 0, 0, 0, 0), RecordRights.ABSENT);
    }

    private static void records(Checks checks) {
        RecordRights rights = new RecordRights();
        checks.badArgument("kind -1", () -> rights.record(-1, 0));
        checks.badArgument("kind 4", () -> rights.record(4, 0));
        checks.badArgument("community -2", () -> rights.record(0, -2));
        checks.badArgument("community 8", () -> rights.record(0, 8));
        checks.equal("none was made", rights.count(4), 0);
        for (int k = 0; k < 16; k++) {
            checks.equal("record " + k, rights.record(k % 4, k % 9 - 1), k);
        }
        checks.badState("record 16", () -> rights.record(0, 0));
        checks.badArgument("kind is looked at first", () -> rights.record(4, 0));
        checks.badArgument("community is looked at first", () -> rights.record(0, 8));
        checks.equal("count(4)", rights.count(4), 16);
        rights.person(0);
        Checks.rule(rights, "m k2");
        Checks.rule(rights, "s c4");
        for (int k = 0; k < 16; k++) {
            int other = k % 4 == 2 ? RecordRights.MASKED : RecordRights.ABSENT;
            int due = k % 9 - 1 == 4 ? RecordRights.SHOWN : other;
            checks.equal("kind and community of " + k, rights.asks(0, k, 0, 0, 0), due);
        }
    }

    private static void values(Checks checks) {
        RecordRights rights = new RecordRights();
        for (int k = 0; k < 16; k++) {
            rights.record(0, 0);
        }
        for (int k = 0; k < 96; k++) {
            checks.equal("at first", rights.value(k / 6, k % 6, 1000L * k + 7), 0);
        }
        for (int k = 0; k < 96; k++) {
            checks.equal("what it was", rights.value(k / 6, k % 6, Long.MIN_VALUE + k), 1000L * k + 7);
        }
        checks.equal("the whole range", rights.value(15, 5, 0), Long.MIN_VALUE + 95);
        checks.noSuch("record -1", () -> rights.value(-1, 0, 1));
        checks.noSuch("record 16", () -> rights.value(16, 0, 1));
        checks.noSuch("field -1", () -> rights.value(1, -1, 1));
        checks.noSuch("field 6", () -> rights.value(1, 6, 1));
        checks.equal("nothing changed", rights.value(0, 5, 0), Long.MIN_VALUE + 5);
        checks.equal("nothing changed", rights.value(2, 0, 0), Long.MIN_VALUE + 12);
    }

    private static void maskedValues(Checks checks) {
        long[][] pairs = {
            {0, 0}, {999, 0}, {1000, 1000}, {1999, 1000}, {12345, 12000}, {-1, 0}, {-999, 0}, {-1000, -1000},
            {-1001, -1000}, {-12345, -12000}, {Long.MAX_VALUE, 9223372036854775000L},
            {Long.MIN_VALUE, -9223372036854775000L}, {-9223372036854775000L, -9223372036854775000L},
        };
        RecordRights rights = new RecordRights();
        rights.record(0, 0);
        rights.record(0, 0);
        for (long[] pair : pairs) {
            rights.value(1, 4, pair[0]);
            checks.equal("masked " + pair[0], rights.masked(1, 4), pair[1]);
            checks.equal("the value stays", rights.value(1, 4, 0), pair[0]);
        }
        rights.value(1, 4, 5000);
        checks.equal("another record's", rights.masked(0, 4), 0);
        checks.equal("another field's", rights.masked(1, 3), 0);
        checks.noSuch("record -1", () -> rights.masked(-1, 0));
        checks.noSuch("record 2", () -> rights.masked(2, 0));
        checks.noSuch("field -1", () -> rights.masked(0, -1));
        checks.noSuch("field 6", () -> rights.masked(0, 6));
    }

    private static void embargoes(Checks checks) {
        RecordRights rights = new RecordRights();
        rights.person(127);
        rights.person(128);
        rights.record(0, 0);
        rights.record(0, 0);
        Checks.rule(rights, "s");
        checks.equal("none at first", rights.embargo(0, 50), RecordRights.NONE);
        checks.equal("before its day", rights.asks(0, 0, 0, 0, 0), RecordRights.ABSENT);
        checks.equal("on its day", rights.asks(0, 0, 0, 0, 50), RecordRights.ABSENT);
        checks.equal("behind its day", rights.asks(0, 0, 0, 0, 51), RecordRights.SHOWN);
        checks.equal("with role 7", rights.asks(1, 0, 0, 0, 50), RecordRights.SHOWN);
        checks.equal("another record", rights.asks(0, 1, 0, 0, 50), RecordRights.SHOWN);
        checks.equal("an earlier one in its place", rights.embargo(0, 0), 50);
        checks.equal("on day 0", rights.asks(0, 0, 0, 0, 0), RecordRights.ABSENT);
        checks.equal("on day 1", rights.asks(0, 0, 0, 0, 1), RecordRights.SHOWN);
        checks.equal("the last day", rights.embargo(0, 100000), 0);
        checks.equal("holds on it", rights.asks(0, 0, 0, 0, 100000), RecordRights.ABSENT);
        checks.badArgument("day -2", () -> rights.embargo(0, -2));
        checks.badArgument("day 100001", () -> rights.embargo(0, 100001));
        checks.noSuch("record -1", () -> rights.embargo(-1, 5));
        checks.noSuch("record 2 is looked at first", () -> rights.embargo(2, 100001));
        checks.equal("no more", rights.embargo(0, RecordRights.NONE), 100000);
        checks.equal("shown again", rights.asks(0, 0, 0, 0, 0), RecordRights.SHOWN);
        checks.equal("none again", rights.embargo(0, RecordRights.NONE), RecordRights.NONE);
    }

    private static void agreements(Checks checks) {
        RecordRights rights = new RecordRights();
        rights.person(0);
        rights.person(0);
        rights.record(0, 0);
        rights.record(0, 0);
        Checks.rule(rights, "m !g");
        Checks.rule(rights, "s g");
        checks.equal("one", rights.agreement(1, 0, 10, 20), 1);
        checks.equal("two", rights.agreement(1, 0, 30, 30), 2);
        checks.equal("of the other one", rights.agreement(0, 1, 0, 100000), 3);
        int[] days = {9, 10, 15, 20, 21, 29, 30, 31};
        for (int day : days) {
            boolean holds = day >= 10 && day <= 20 || day == 30;
            int due = holds ? RecordRights.SHOWN : RecordRights.MASKED;
            checks.equal("on day " + day, rights.asks(1, 0, 0, 0, day), due);
            checks.equal("another person", rights.asks(0, 0, 0, 0, day), RecordRights.MASKED);
            checks.equal("another record", rights.asks(1, 1, 0, 0, day), RecordRights.MASKED);
        }
        checks.equal("first day", rights.asks(0, 1, 0, 0, 0), RecordRights.SHOWN);
        checks.equal("last day", rights.asks(0, 1, 0, 0, 100000), RecordRights.SHOWN);
        wrongAgreements(checks, rights);
    }

    private static void wrongAgreements(Checks checks, RecordRights rights) {
        checks.noSuch("person -1", () -> rights.agreement(-1, 0, 1, 2));
        checks.noSuch("person 2", () -> rights.agreement(2, 0, 1, 2));
        checks.noSuch("record -1", () -> rights.agreement(0, -1, 1, 2));
        checks.noSuch("record 2 is looked at first", () -> rights.agreement(0, 2, 2, 1));
        checks.badArgument("from -1", () -> rights.agreement(0, 0, -1, 2));
        checks.badArgument("to 100001", () -> rights.agreement(0, 0, 1, 100001));
        checks.badArgument("both too high", () -> rights.agreement(0, 0, 100001, 100001));
        checks.badArgument("both too low", () -> rights.agreement(0, 0, -1, -1));
        checks.badArgument("from above to", () -> rights.agreement(0, 0, 3, 2));
        for (int k = 4; k <= 40; k++) {
            checks.equal("agreement " + k, rights.agreement(0, 0, k, k), k);
        }
        checks.badState("41 agreements", () -> rights.agreement(0, 0, 50, 50));
        checks.badArgument("days are looked at first", () -> rights.agreement(0, 0, 3, 2));
        checks.noSuch("persons are looked at first", () -> rights.agreement(2, 0, 3, 3));
        checks.equal("the 40th holds", rights.asks(0, 0, 0, 0, 40), RecordRights.SHOWN);
        checks.equal("the 41st does not", rights.asks(0, 0, 0, 0, 50), RecordRights.MASKED);
    }
}
