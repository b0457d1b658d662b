import java.util.function.IntConsumer;

/** The document's terms: each sentence that names an edge has a test of its own. */
final class TermsEdgesTest {
    private static final int NONE = RecordRights.NONE;
    private static final int ABSENT = RecordRights.ABSENT;
    private static final int MASKED = RecordRights.MASKED;
    private static final int SHOWN = RecordRights.SHOWN;
    private static final int LAST_DAY = 100000;

    private final Checks checks = new Checks();

    public static void main(String[] args) {
        TermsEdgesTest test = new TermsEdgesTest();
        test.ranges();
        test.whatAPersonGets();
        test.bounds();
        test.exceptions();
        test.checks.end();
    }

    private void ranges() {
        checks.sentence("An object is used for at most 512 calls after it has been made", this::lastCall);
        checks.sentence("DAYS are 0 .. 100000.", this::days);
        checks.sentence("PERSONS are 0 .. 11", this::persons);
        checks.sentence("each with ROLES, a set of 0 .. 7", this::roles);
        checks.sentence("RECORDS are 0 .. 15", this::records);
        checks.sentence("each of a KIND 0 .. 3", this::kinds);
        checks.sentence("of a COMMUNITY 0 .. 7 or none", this::communities);
        checks.sentence("FIELDS are 0 .. 5", this::fields);
        checks.sentence("each with a value in a record (0 at first)", this::valuesAtFirst);
        checks.sentence("PURPOSES are 0 .. 3.", this::purposes);
    }

    private void whatAPersonGets() {
        checks.sentence("ABSENT, if an embargo of the record holds that day (up to its day, with it)",
                this::embargoDays);
        checks.sentence("and the person has not role 7", this::roleSeven);
        checks.sentence("ABSENT, if some rule of ABSENT suits", this::someRuleOfAbsent);
        checks.sentence("else, as the last told rule that suits says", this::lastToldRule);
        checks.sentence("ABSENT if none suits", this::noneSuits);
    }

    private void bounds() {
        checks.sentence("its last three decimal digits become 0", this::lastThreeDigits);
        checks.sentence("(without sign ahead, then the sign again)", this::signAgain);
        checks.sentence("AGREEMENTS, at most 40", this::mostAgreements);
        checks.sentence("from a day to another one (both with it)", this::agreementDays);
        checks.sentence("the records of which no field is absent for purpose 3", this::exportHolds);
        checks.sentence("the person's LIMIT (3 at first)", this::limitAtFirst);
        checks.sentence("within the 30 days that end with that day", this::thirtyDays);
        checks.sentence("those that are too many are not kept", this::tooManyAreNotKept);
    }

    private void exceptions() {
        checks.sentence("NoSuchElementException: there is no such person", this::noSuchPerson);
        checks.sentence("NoSuchElementException: there is no such .. record", this::noSuchRecord);
        checks.sentence("NoSuchElementException: there is no such .. field", this::noSuchField);
        checks.sentence("NoSuchElementException: there is no such .. purpose", this::noSuchPurpose);
        checks.sentence("NoSuchElementException: there is no such .. rule", this::noSuchRule);
        checks.sentence("NoSuchElementException: there is no such .. place", this::noSuchPlace);
        checks.sentence("NoSuchElementException ahead of IllegalArgumentException", this::elementFirst);
        checks.sentence("IllegalArgumentException, then IllegalStateException", this::argumentFirst);
        checks.sentence("NoSuchElementException ahead of IllegalStateException", this::elementBeforeState);
    }

    private void lastCall() {
        RecordRights rights = Checks.with(1, 1);
        rights.unit('m', 0, 0, 0);
        rights.rule();
        for (int call = 5; call < 512; call++) {
            checks.equal("call " + call, rights.asks(0, 0, 0, 0, call), MASKED);
        }
        checks.equal("call 512", rights.look(99, 4), 104);
    }

    private void days() {
        onDays("embargo", day -> Checks.with(1, 1).embargo(0, day), -2);
        onDays("agreement from", day -> Checks.with(1, 1).agreement(0, 0, day, LAST_DAY), -1);
        onDays("agreement to", day -> Checks.with(1, 1).agreement(0, 0, 0, day), -1);
        onDays("agreement from and to", day -> Checks.with(1, 1).agreement(0, 0, day, day), -1);
        onDays("asks", day -> Checks.with(1, 1).asks(0, 0, 0, 0, day), -1);
        onDays("export", day -> Checks.with(1, 1).export(0, day), -1);
        onDays("request", day -> Checks.with(1, 1).request(0, 0, day), -1);
        onDays("idle", day -> Checks.with(1, 1).idle(day), -1);
    }

    private void onDays(String call, IntConsumer onDay, int highestBelow) {
        int[] wrong = {
            Integer.MIN_VALUE, Integer.MIN_VALUE + LAST_DAY, -2, highestBelow, LAST_DAY + 1, Integer.MAX_VALUE,
        };
        for (int day : wrong) {
            checks.badArgument(call + " on day " + day, () -> onDay.accept(day));
        }
        int[] right = {0, 1, LAST_DAY - 1, LAST_DAY};
        for (int day : right) {
            checks.thrown(call + " on day " + day, () -> onDay.accept(day), null);
        }
    }

    private void persons() {
        RecordRights rights = Checks.with(0, 1, "s");
        for (int k = 0; k < 12; k++) {
            checks.equal("the number of person " + k, rights.person(0), k);
            checks.equal("person " + k + " asks", rights.asks(k, 0, 0, 0, 0), SHOWN);
        }
        checks.badState("a person 12", () -> rights.person(0));
        checks.noSuch("person 12 asks", () -> rights.asks(12, 0, 0, 0, 0));
    }

    private void roles() {
        for (int role = 0; role < 8; role++) {
            RecordRights rights = Checks.with(0, 1, "m", "s r" + role);
            rights.person(0);
            rights.person(1 << role);
            rights.person(255 - (1 << role));
            rights.person(255);
            checks.equal("no role, " + role, rights.asks(0, 0, 0, 0, 0), MASKED);
            checks.equal("role " + role + " alone", rights.asks(1, 0, 0, 0, 0), SHOWN);
            checks.equal("all but role " + role, rights.asks(2, 0, 0, 0, 0), MASKED);
            checks.equal("all roles, " + role, rights.asks(3, 0, 0, 0, 0), SHOWN);
        }
        checks.equal("a rule for role 8", Checks.rule(new RecordRights(), "s r8"), NONE - 3);
    }

    private void records() {
        RecordRights rights = Checks.with(1, 0, "s");
        for (int k = 0; k < 16; k++) {
            checks.equal("the number of record " + k, rights.record(0, 0), k);
            checks.equal("record " + k + " is asked for", rights.asks(0, k, 0, 0, 0), SHOWN);
        }
        checks.badState("a record 16", () -> rights.record(0, 0));
        checks.noSuch("record 16 is asked for", () -> rights.asks(0, 16, 0, 0, 0));
    }

    private void kinds() {
        RecordRights rights = Checks.with(1, 0, "m", "s k0", "s k3");
        for (int kind : Checks.outside(0, 3)) {
            checks.badArgument("kind " + kind, () -> rights.record(kind, 0));
        }
        for (int kind = 0; kind < 4; kind++) {
            checks.equal("kind " + kind, rights.record(kind, 0), kind);
            checks.equal("is it 0 or 3", rights.asks(0, kind, 0, 0, 0), kind == 0 || kind == 3 ? SHOWN : MASKED);
        }
        checks.equal("a rule for kind 4", Checks.rule(rights, "s k4"), NONE - 3);
    }

    private void communities() {
        RecordRights rights = Checks.with(1, 0, "m", "s c0", "s c7");
        for (int community : Checks.outside(NONE, 7)) {
            checks.badArgument("community " + community, () -> rights.record(0, community));
        }
        for (int c = NONE; c < 8; c++) {
            checks.equal("community " + c, rights.record(0, c), c + 1);
            checks.equal("is it 0 or 7", rights.asks(0, c + 1, 0, 0, 0), c == 0 || c == 7 ? SHOWN : MASKED);
        }
        checks.equal("a rule for community 8", Checks.rule(rights, "s c8"), NONE - 3);
    }

    private void fields() {
        RecordRights rights = Checks.with(1, 1, "m", "s f0", "s f5");
        for (int field = 0; field < 6; field++) {
            checks.equal("field " + field, rights.asks(0, 0, field, 0, 0), field == 0 || field == 5 ? SHOWN : MASKED);
            checks.equal("its value", rights.value(0, field, 7000 + field), 0);
            checks.equal("its value, masked", rights.masked(0, field), 7000);
        }
        checks.noSuch("field 6 is asked for", () -> rights.asks(0, 0, 6, 0, 0));
        checks.equal("a rule for field 6", Checks.rule(rights, "s f6"), NONE - 3);
    }

    private void valuesAtFirst() {
        RecordRights rights = Checks.with(0, 15);
        for (int k = 0; k < 15 * 6; k++) {
            rights.value(k / 6, k % 6, -1 - k);
        }
        rights.record(0, 0);
        for (int field = 0; field < 6; field++) {
            checks.equal("field " + field + ", masked", rights.masked(15, field), 0);
            checks.equal("field " + field, rights.value(15, field, 1), 0);
        }
    }

    private void purposes() {
        RecordRights rights = Checks.with(1, 1, "m", "s p0", "s p3");
        for (int p = 0; p < 4; p++) {
            checks.equal("purpose " + p, rights.asks(0, 0, 0, p, 0), p == 0 || p == 3 ? SHOWN : MASKED);
        }
        checks.noSuch("purpose 4", () -> rights.asks(0, 0, 0, 4, 0));
        checks.equal("a rule for purpose 4", Checks.rule(rights, "s p4"), NONE - 3);
    }

    private void embargoDays() {
        int[] untils = {0, 1, 500, LAST_DAY - 1, LAST_DAY};
        for (int until : untils) {
            RecordRights rights = Checks.with(1, 2, "s");
            rights.embargo(1, until);
            checks.equal("the first day, until " + until, rights.asks(0, 1, 0, 0, 0), ABSENT);
            checks.equal("its day " + until, rights.asks(0, 1, 0, 0, until), ABSENT);
            checks.equal("another record on day " + until, rights.asks(0, 0, 0, 0, until), SHOWN);
            if (until > 0) {
                checks.equal("the day ahead of " + until, rights.asks(0, 1, 0, 0, until - 1), ABSENT);
            }
            if (until < LAST_DAY) {
                checks.equal("the day behind " + until, rights.asks(0, 1, 0, 0, until + 1), SHOWN);
            }
        }
    }

    private void roleSeven() {
        RecordRights rights = Checks.with(0, 1, "m", "a f1");
        rights.person(127);
        rights.person(128);
        rights.person(255);
        rights.embargo(0, 9);
        checks.equal("all other roles", rights.asks(0, 0, 0, 0, 9), ABSENT);
        checks.equal("role 7 alone", rights.asks(1, 0, 0, 0, 9), MASKED);
        checks.equal("all roles", rights.asks(2, 0, 0, 0, 9), MASKED);
        checks.equal("role 7 is under the rules yet", rights.asks(1, 0, 1, 0, 9), ABSENT);
        checks.equal("no embargo, no role 7", rights.asks(0, 0, 0, 0, 10), MASKED);
    }

    private void someRuleOfAbsent() {
        String[][] orders = {{"a", "s", "m"}, {"s", "a", "m"}, {"s", "m", "a"}, {"a"}, {"a", "a", "s"}};
        for (String[] order : orders) {
            RecordRights rights = Checks.with(1, 1, order);
            checks.equal(String.join(", ", order), rights.asks(0, 0, 0, 0, 0), ABSENT);
        }
        RecordRights rights = Checks.with(1, 1, "a", "s");
        rights.drop(0);
        checks.equal("it is told no more", rights.asks(0, 0, 0, 0, 0), SHOWN);
        checks.equal("it does not suit", Checks.with(1, 1, "s", "a r0").asks(0, 0, 0, 0, 0), SHOWN);
        RecordRights two = Checks.with(1, 1, "s", "a f0", "a f1");
        checks.equal("the first of two suits", two.asks(0, 0, 0, 0, 0), ABSENT);
        checks.equal("the second of two suits", two.asks(0, 0, 1, 0, 0), ABSENT);
        checks.equal("neither suits", two.asks(0, 0, 2, 0, 0), SHOWN);
    }

    private void lastToldRule() {
        RecordRights rights = Checks.with(1, 1);
        for (int k = 0; k < 20; k++) {
            Checks.rule(rights, k % 2 == 0 ? "m" : "s");
            checks.equal("rule " + k, rights.asks(0, 0, 0, 0, 0), k % 2 == 0 ? MASKED : SHOWN);
        }
        for (int k = 19; k > 0; k--) {
            rights.drop(k);
            checks.equal("without rule " + k, rights.asks(0, 0, 0, 0, 0), k % 2 == 0 ? SHOWN : MASKED);
        }
        checks.equal("a later one does not suit", Checks.with(1, 1, "m", "s f1").asks(0, 0, 0, 0, 0), MASKED);
        checks.equal("an earlier one does not suit", Checks.with(1, 1, "m f1", "s").asks(0, 0, 0, 0, 0), SHOWN);
    }

    private void noneSuits() {
        checks.equal("no rule", Checks.with(1, 1).asks(0, 0, 0, 0, 0), ABSENT);
        checks.equal("one that does not suit", Checks.with(1, 1, "s r0").asks(0, 0, 0, 0, 0), ABSENT);
        checks.equal("two that do not suit", Checks.with(1, 1, "s r0", "m c0").asks(0, 0, 0, 0, 0), ABSENT);
        RecordRights rights = Checks.with(1, 1, "s");
        rights.drop(0);
        checks.equal("none is told", rights.asks(0, 0, 0, 0, 0), ABSENT);
    }

    private void lastThreeDigits() {
        long[][] pairs = {
            {0, 0}, {1, 0}, {9, 0}, {10, 0}, {99, 0}, {100, 0}, {999, 0}, {1000, 1000}, {1001, 1000}, {1999, 1000},
            {2000, 2000}, {1234567, 1234000}, {Integer.MAX_VALUE, 2147483000L}, {4294967296L, 4294967000L},
            {Long.MAX_VALUE, 9223372036854775000L},
        };
        masks(pairs);
    }

    private void signAgain() {
        long[][] pairs = {
            {-1, 0}, {-999, 0}, {-1000, -1000}, {-1001, -1000}, {-1999, -1000}, {-2000, -2000},
            {Integer.MIN_VALUE, -2147483000L}, {-4294967297L, -4294967000L},
            {-Long.MAX_VALUE, -9223372036854775000L}, {Long.MIN_VALUE, -9223372036854775000L},
        };
        masks(pairs);
    }

    private void masks(long[][] pairs) {
        RecordRights rights = Checks.with(0, 1);
        for (long[] pair : pairs) {
            rights.value(0, 5, pair[0]);
            checks.equal("masked " + pair[0], rights.masked(0, 5), pair[1]);
        }
    }

    private void mostAgreements() {
        RecordRights rights = Checks.with(2, 2, "m", "s g");
        for (int k = 1; k <= 40; k++) {
            checks.equal("agreement " + k, rights.agreement(k % 2, 0, k, k), k);
        }
        checks.badState("41, of one who has some", () -> rights.agreement(0, 0, 41, 41));
        checks.badState("41, for a record that has none", () -> rights.agreement(0, 1, 41, 41));
        checks.equal("the first holds", rights.asks(1, 0, 0, 0, 1), SHOWN);
        checks.equal("the 40th holds", rights.asks(0, 0, 0, 0, 40), SHOWN);
        checks.equal("there is no 41st", rights.asks(0, 0, 0, 0, 41), MASKED);
        checks.equal("nor for the other record", rights.asks(0, 1, 0, 0, 41), MASKED);
    }

    private void agreementDays() {
        int[][] spans = {{0, 0}, {0, 7}, {7, 7}, {7, 9}, {LAST_DAY - 1, LAST_DAY}, {LAST_DAY, LAST_DAY}, {0, LAST_DAY}};
        for (int[] span : spans) {
            RecordRights rights = Checks.with(1, 1, "m", "s g");
            rights.agreement(0, 0, span[0], span[1]);
            checks.equal("its first day " + span[0], rights.asks(0, 0, 0, 0, span[0]), SHOWN);
            checks.equal("its last day " + span[1], rights.asks(0, 0, 0, 0, span[1]), SHOWN);
            if (span[0] > 0) {
                checks.equal("ahead of day " + span[0], rights.asks(0, 0, 0, 0, span[0] - 1), MASKED);
            }
            if (span[1] < LAST_DAY) {
                checks.equal("behind day " + span[1], rights.asks(0, 0, 0, 0, span[1] + 1), MASKED);
            }
        }
    }

    private void exportHolds() {
        for (int field = 0; field < 6; field++) {
            checks.equal("all masked but absent " + field, Checks.with(1, 1, "m !f" + field).export(0, 0), 0);
            checks.equal("all shown, " + field + " masked", Checks.with(1, 1, "s", "m f" + field).export(0, 0), 1);
            checks.equal("field " + field + " alone", Checks.with(1, 1, "s f" + field).export(0, 0), 0);
        }
        for (int purpose = 0; purpose < 3; purpose++) {
            checks.equal("absent for " + purpose, Checks.with(1, 1, "s", "a p" + purpose).export(0, 0), 1);
            checks.equal("shown for " + purpose, Checks.with(1, 1, "s p" + purpose).export(0, 0), 0);
        }
        checks.equal("absent for 3", Checks.with(1, 1, "s", "a p3 f5").export(0, 0), 0);
        checks.equal("shown for 3", Checks.with(1, 1, "s p3").export(0, 0), 1);
        checks.equal("each field by a rule of its own",
                Checks.with(1, 1, "s f0", "m f1", "s f2", "m f3", "s f4", "m f5").export(0, 0), 1);
        checks.equal("no records", Checks.with(1, 0, "s").export(0, 0), 0);
    }

    private void limitAtFirst() {
        RecordRights rights = Checks.with(12, 1);
        for (int person = 0; person < 12; person++) {
            for (int k = 1; k <= 3; k++) {
                checks.equal("request " + k + " of " + person, rights.request(person, 0, 0), k);
            }
            checks.equal("request 4 of " + person, rights.request(person, 0, 0), NONE);
            checks.equal("limit of " + person, rights.limit(person, 4), 3);
        }
    }

    private void thirtyDays() {
        int[] firsts = {0, 1, 29, 30, 31, 5000, LAST_DAY - 30};
        for (int first : firsts) {
            RecordRights rights = Checks.with(1, 1);
            rights.request(0, 0, first);
            checks.equal("29 days behind " + first, rights.request(0, 0, first + 29), 2);
            checks.equal("30 days behind " + first, rights.request(0, 0, first + 30), 2);
            checks.equal("on day " + first, rights.request(0, 0, first), 2);
            if (first > 0) {
                checks.equal("a day ahead of " + first, rights.request(0, 0, first - 1), 1);
            }
        }
    }

    private void tooManyAreNotKept() {
        RecordRights rights = Checks.with(1, 1);
        rights.limit(0, 2);
        rights.request(0, 0, 10);
        rights.request(0, 0, 20);
        for (int k = 0; k < 3; k++) {
            checks.equal("too many", rights.request(0, 0, 30), NONE);
        }
        checks.equal("kept", rights.count(6), 2);
        checks.equal("day 40 is behind the first, and none of day 30", rights.request(0, 0, 40), 2);
    }

    private void noSuchPerson() {
        RecordRights rights = Checks.with(2, 2, "s");
        for (int p : Checks.outside(0, 1)) {
            checks.noSuch("agreement of " + p, () -> rights.agreement(p, 0, 0, 1));
            checks.noSuch("asks of " + p, () -> rights.asks(p, 0, 0, 0, 0));
            checks.noSuch("export for " + p, () -> rights.export(p, 0));
            checks.noSuch("request of " + p, () -> rights.request(p, 0, 0));
            checks.noSuch("limit of " + p, () -> rights.limit(p, 3));
        }
    }

    private void noSuchRecord() {
        RecordRights rights = Checks.with(2, 2, "s");
        for (int r : Checks.outside(0, 1)) {
            checks.noSuch("value of " + r, () -> rights.value(r, 0, 1));
            checks.noSuch("embargo of " + r, () -> rights.embargo(r, 0));
            checks.noSuch("no embargo of " + r, () -> rights.embargo(r, NONE));
            checks.noSuch("agreement for " + r, () -> rights.agreement(0, r, 0, 1));
            checks.noSuch("asks for " + r, () -> rights.asks(0, r, 0, 0, 0));
            checks.noSuch("masked of " + r, () -> rights.masked(r, 0));
            checks.noSuch("looked at " + r, () -> rights.looked(r, 0));
            checks.noSuch("request for " + r, () -> rights.request(0, r, 0));
        }
        // six times this number is 2 again, by an int's wrap-around
        checks.noSuch("a record that wraps around", () -> rights.value(715827883, 0, 1));
        checks.noSuch("it, masked", () -> rights.masked(715827883, 0));
    }

    private void noSuchField() {
        RecordRights rights = Checks.with(1, 3, "s");
        for (int f : Checks.outside(0, 5)) {
            checks.noSuch("value of " + f, () -> rights.value(1, f, 1));
            checks.noSuch("masked " + f, () -> rights.masked(1, f));
            checks.noSuch("asks for " + f, () -> rights.asks(0, 1, f, 0, 0));
        }
    }

    private void noSuchPurpose() {
        RecordRights rights = Checks.with(1, 1, "s");
        for (int p : Checks.outside(0, 3)) {
            checks.noSuch("asks for purpose " + p, () -> rights.asks(0, 0, 0, p, 0));
        }
    }

    private void noSuchRule() {
        RecordRights rights = Checks.with(0, 0, "s", "m");
        for (int k : Checks.outside(0, 1)) {
            checks.noSuch("drop " + k, () -> rights.drop(k));
        }
    }

    private void noSuchPlace() {
        RecordRights rights = Checks.with(1, 2, "s");
        rights.asks(0, 0, 0, 0, 0);
        rights.asks(0, 1, 0, 0, 0);
        rights.export(0, 0);
        for (int k : Checks.outside(0, 1)) {
            checks.noSuch("look " + k, () -> rights.look(k, 0));
            checks.noSuch("exported " + k, () -> rights.exported(k));
        }
    }

    private void elementFirst() {
        RecordRights rights = Checks.with(1, 1, "s");
        checks.noSuch("embargo: record, day", () -> rights.embargo(1, -2));
        checks.noSuch("agreement: person, from", () -> rights.agreement(1, 0, -1, 5));
        checks.noSuch("agreement: record, to", () -> rights.agreement(0, 1, 5, LAST_DAY + 1));
        checks.noSuch("agreement: record, from above to", () -> rights.agreement(0, -1, 5, 4));
        checks.noSuch("asks: person, day", () -> rights.asks(1, 0, 0, 0, -1));
        checks.noSuch("asks: record, day", () -> rights.asks(0, 1, 0, 0, -1));
        checks.noSuch("asks: field, day", () -> rights.asks(0, 0, 6, 0, -1));
        checks.noSuch("asks: purpose, day", () -> rights.asks(0, 0, 0, 4, LAST_DAY + 1));
        checks.noSuch("export: person, day", () -> rights.export(1, -1));
        checks.noSuch("request: person, day", () -> rights.request(1, 0, -1));
        checks.noSuch("request: record, day", () -> rights.request(0, 1, LAST_DAY + 1));
        checks.noSuch("limit: person, most", () -> rights.limit(1, 61));
    }

    private void argumentFirst() {
        RecordRights rights = Checks.with(12, 16);
        fillAgreementsAndRequests(rights);
        checks.badArgument("person", () -> rights.person(256));
        checks.badArgument("record: kind", () -> rights.record(4, 0));
        checks.badArgument("record: community", () -> rights.record(0, 8));
        checks.badArgument("agreement: from", () -> rights.agreement(0, 0, -1, 0));
        checks.badArgument("agreement: to", () -> rights.agreement(0, 0, 0, LAST_DAY + 1));
        checks.badArgument("agreement: from above to", () -> rights.agreement(0, 0, 1, 0));
        checks.badArgument("request: day", () -> rights.request(0, 0, -1));
        checks.badState("person, full", () -> rights.person(255));
        checks.badState("record, full", () -> rights.record(3, 7));
        checks.badState("agreement, full", () -> rights.agreement(0, 0, 0, 0));
        checks.badState("request, full", () -> rights.request(0, 0, LAST_DAY));
    }

    private void elementBeforeState() {
        RecordRights rights = Checks.with(12, 16);
        fillAgreementsAndRequests(rights);
        checks.noSuch("agreement: person", () -> rights.agreement(12, 0, 0, 0));
        checks.noSuch("agreement: record", () -> rights.agreement(0, 16, 0, 0));
        checks.noSuch("request: person", () -> rights.request(12, 0, 0));
        checks.noSuch("request: record", () -> rights.request(0, 16, 0));
        checks.noSuch("agreement: person and from", () -> rights.agreement(-1, 0, -1, 0));
        checks.noSuch("request: record and day", () -> rights.request(0, -1, -1));
    }

    private static void fillAgreementsAndRequests(RecordRights rights) {
        for (int k = 0; k < 40; k++) {
            rights.agreement(0, 0, 0, 0);
        }
        rights.limit(0, 60);
        for (int k = 0; k < 60; k++) {
            rights.request(0, 0, 0);
        }
    }
}
