/** Promises 16 to 19: each sentence that names an edge has a test of its own. */
final class RequestEdgesTest {
    private static final int NONE = RecordRights.NONE;
    private static final int LAST_DAY = 100000;

    private final Checks checks = new Checks();

    public static void main(String[] args) {
        RequestEdgesTest test = new RequestEdgesTest();
        test.requests();
        test.idleAndCount();
        test.checks.end();
    }

    private void requests() {
        checks.sentence("how many of the person lie within the 30 days, with it", this::withinThirtyDays);
        checks.sentence("how many of the person", this::ofThePerson);
        checks.sentence("NONE if it is too many", this::tooMany);
        checks.sentence("request: NoSuchElementException", this::requestOfNone);
        checks.sentence("request: IllegalArgumentException: day.", this::requestOnWrongDay);
        checks.sentence("IllegalStateException: 60 are kept.", this::sixtyAreKept);
        checks.sentence("A person's limit: what it was.", this::whatTheLimitWas);
        checks.sentence("limit: NoSuchElementException", this::limitOfNone);
        checks.sentence("IllegalArgumentException: it is not 0 .. 60.", this::wrongLimit);
        checks.sentence("limit: 0, the lowest", this::limitOfZero);
        checks.sentence("limit: 60, the highest", this::limitOfSixty);
    }

    private void idleAndCount() {
        checks.sentence("The first rule, by numbers", this::firstByNumbers);
        checks.sentence("that is told", this::thatIsTold);
        checks.sentence("without a change of what any person gets", this::anyPerson);
        checks.sentence("of any field", this::anyField);
        checks.sentence("of any record", this::anyRecord);
        checks.sentence("for any purpose", this::anyPurpose);
        checks.sentence("on a day", this::onTheDay);
        checks.sentence("idle: NONE", this::noneIsIdle);
        checks.sentence("idle: IllegalArgumentException: day.", this::idleOnWrongDay);
        checks.sentence("0 signs of the pad", this::countSigns);
        checks.sentence("1 rules, 2 rules that are told", this::countRules);
        checks.sentence("3 persons", this::countPersons);
        checks.sentence("4 records", this::countRecords);
        checks.sentence("5 kept looks", this::countLooks);
        checks.sentence("6 kept requests", this::countRequests);
        checks.sentence("IllegalArgumentException: none of these.", this::countOfNothing);
    }

    private void withinThirtyDays() {
        for (int day = 100; day < 135; day++) {
            RecordRights rights = Checks.with(1, 1);
            rights.request(0, 0, 100);
            rights.request(0, 0, 101);
            int first = day <= 129 ? 1 : 0;
            int second = day >= 101 && day <= 130 ? 1 : 0;
            checks.equal("on day " + day, rights.request(0, 0, day), 1 + first + second);
        }
        RecordRights rights = Checks.with(1, 1);
        checks.equal("day 0", rights.request(0, 0, 0), 1);
        checks.equal("day 29", rights.request(0, 0, 29), 2);
        checks.equal("day 30", rights.request(0, 0, 30), 2);
        checks.equal("the last day", rights.request(0, 0, LAST_DAY), 1);
        checks.equal("29 days ahead of it", rights.request(0, 0, LAST_DAY - 29), 1);
        checks.equal("the last day again", rights.request(0, 0, LAST_DAY), 3);
    }

    private void ofThePerson() {
        RecordRights rights = Checks.with(12, 16);
        for (int person = 0; person < 12; person++) {
            checks.equal("the first of " + person, rights.request(person, 0, 5), 1);
        }
        checks.equal("for another record", rights.request(11, 15, 5), 2);
        checks.equal("for a third one", rights.request(11, 7, 5), 3);
        checks.equal("too many, whatever the record", rights.request(11, 1, 5), NONE);
        checks.equal("the other persons may", rights.request(10, 15, 5), 2);
    }

    private void tooMany() {
        for (int most = 0; most <= 4; most++) {
            RecordRights rights = Checks.with(1, 1);
            rights.limit(0, most);
            for (int k = 1; k <= most; k++) {
                checks.equal("request " + k + " of " + most, rights.request(0, 0, 40), k);
            }
            checks.equal("one above " + most, rights.request(0, 0, 40), NONE);
            checks.equal("29 days on", rights.request(0, 0, 69), NONE);
            checks.equal("30 days on", rights.request(0, 0, 70), most == 0 ? NONE : 1);
            checks.equal("a day ahead", rights.request(0, 0, 39), most == 0 ? NONE : 1);
        }
        RecordRights rights = Checks.with(1, 1);
        rights.request(0, 0, 5);
        rights.request(0, 0, 5);
        rights.limit(0, 1);
        checks.equal("far above a limit that fell", rights.request(0, 0, 5), NONE);
        checks.equal("the two are kept", rights.count(6), 2);
    }

    private void requestOfNone() {
        RecordRights nobody = Checks.with(0, 1);
        checks.noSuch("no persons", () -> nobody.request(0, 0, 0));
        RecordRights nothing = Checks.with(1, 0);
        checks.noSuch("no records", () -> nothing.request(0, 0, 0));
        RecordRights rights = Checks.with(12, 16);
        for (int person : Checks.outside(0, 11)) {
            checks.noSuch("person " + person, () -> rights.request(person, 0, 0));
        }
        for (int record : Checks.outside(0, 15)) {
            checks.noSuch("record " + record, () -> rights.request(0, record, 0));
        }
        checks.equal("none is kept", rights.count(6), 0);
        checks.equal("the last of each", rights.request(11, 15, 0), 1);
    }

    private void requestOnWrongDay() {
        RecordRights rights = Checks.with(1, 1);
        for (int day : Checks.outside(0, LAST_DAY)) {
            checks.badArgument("day " + day, () -> rights.request(0, 0, day));
        }
        checks.equal("none is kept", rights.count(6), 0);
        checks.equal("day 0", rights.request(0, 0, 0), 1);
        checks.equal("the last day", rights.request(0, 0, LAST_DAY), 1);
    }

    private void sixtyAreKept() {
        RecordRights rights = Checks.with(12, 16);
        for (int k = 0; k < 59; k++) {
            rights.request(k % 11, k % 16, 40 * (k / 11));
        }
        rights.limit(11, 0);
        checks.equal("one that is too many", rights.request(11, 0, 0), NONE);
        rights.limit(11, 1);
        checks.equal("the sixtieth", rights.request(11, 0, 0), 1);
        checks.badState("one more of those who could", () -> rights.request(5, 0, LAST_DAY));
        checks.badState("one more that would be too many", () -> rights.request(11, 0, 0));
        checks.equal("kept", rights.count(6), 60);
    }

    private void whatTheLimitWas() {
        RecordRights rights = Checks.with(12, 0);
        int[] limits = {60, 0, 1, 59, 59, 3};
        for (int person = 0; person < 12; person += 11) {
            int before = 3;
            for (int most : limits) {
                checks.equal("ahead of " + most, rights.limit(person, most), before);
                before = most;
            }
            rights.limit(person, 7);
        }
        checks.equal("another person's", rights.limit(1, 5), 3);
        checks.equal("the first one's", rights.limit(0, 5), 7);
        checks.equal("a new person's", Checks.with(1, 0).limit(0, 5), 3);
    }

    private void limitOfNone() {
        RecordRights nobody = new RecordRights();
        checks.noSuch("no persons", () -> nobody.limit(0, 3));
        RecordRights rights = Checks.with(12, 0);
        for (int person : Checks.outside(0, 11)) {
            checks.noSuch("person " + person, () -> rights.limit(person, 5));
        }
        for (int person = 0; person < 12; person++) {
            checks.equal("limit of " + person, rights.limit(person, 5), 3);
        }
    }

    private void wrongLimit() {
        RecordRights rights = Checks.with(1, 0);
        for (int most : Checks.outside(0, 60)) {
            checks.badArgument("limit " + most, () -> rights.limit(0, most));
        }
        checks.equal("what it was", rights.limit(0, 0), 3);
        checks.equal("0 may be", rights.limit(0, 60), 0);
        checks.equal("60 may be", rights.limit(0, 3), 60);
    }

    private void limitOfZero() {
        RecordRights rights = Checks.with(2, 1);
        rights.limit(0, 0);
        checks.equal("none may", rights.request(0, 0, 0), NONE);
        checks.equal("nor ever", rights.request(0, 0, LAST_DAY), NONE);
        checks.equal("nothing is kept", rights.count(6), 0);
        checks.equal("another person may", rights.request(1, 0, 0), 1);
    }

    private void limitOfSixty() {
        RecordRights rights = Checks.with(1, 1);
        rights.limit(0, 60);
        for (int k = 1; k <= 60; k++) {
            checks.equal("request " + k, rights.request(0, 0, 5), k);
        }
        checks.badState("request 61", () -> rights.request(0, 0, 5));
    }

    private void firstByNumbers() {
        checks.equal("both of two", Checks.with(1, 1, "s", "s").idle(0), 0);
        checks.equal("both of two of ABSENT", Checks.with(1, 1, "a", "a").idle(0), 0);
        checks.equal("the second and third", Checks.with(1, 1, "s", "s f1", "s f2").idle(0), 1);
        RecordRights rights = Checks.with(1, 1, "s f0", "m f1", "s f2", "m f3", "s f4", "m f5");
        for (int k = 6; k < 19; k++) {
            Checks.rule(rights, "m f" + k % 6 + " r0");
        }
        checks.equal("the first of many", rights.idle(0), 6);
        for (int k = 6; k < 19; k++) {
            rights.drop(k);
        }
        checks.equal("none of six", rights.idle(0), NONE);
        Checks.rule(rights, "a r0");
        checks.equal("the twentieth", rights.idle(0), 19);
    }

    private void thatIsTold() {
        RecordRights rights = Checks.with(1, 1, "s r0", "s r1", "s");
        checks.equal("the first", rights.idle(0), 0);
        rights.drop(0);
        checks.equal("the second", rights.idle(0), 1);
        rights.drop(1);
        checks.equal("the third is not", rights.idle(0), NONE);
        rights.drop(2);
        checks.equal("none is told", rights.idle(0), NONE);
        checks.equal("idle drops none", Checks.with(1, 1, "s", "s").count(2), 2);
    }

    private void anyPerson() {
        for (int person = 0; person < 12; person++) {
            RecordRights rights = Checks.with(0, 1, "s", "m r3");
            for (int k = 0; k < 12; k++) {
                rights.person(k == person ? 8 : 0);
            }
            checks.equal("person " + person + " needs it", rights.idle(0), NONE);
        }
        checks.equal("nobody needs it", Checks.with(12, 1, "s", "m r3").idle(0), 1);
        checks.equal("there is nobody", Checks.with(0, 1, "s").idle(0), 0);
    }

    private void anyField() {
        for (int field = 0; field < 6; field++) {
            checks.equal("shown, masked " + field, Checks.with(1, 1, "s", "m f" + field).idle(0), NONE);
            checks.equal("shown, absent " + field, Checks.with(1, 1, "s", "a f" + field).idle(0), NONE);
            checks.equal("shown, shown " + field, Checks.with(1, 1, "s", "s f" + field).idle(0), 1);
            checks.equal("shown alone " + field, Checks.with(1, 1, "s f" + field).idle(0), NONE);
        }
    }

    private void anyRecord() {
        for (int record = 0; record < 16; record++) {
            RecordRights rights = Checks.with(1, 0, "s", "m k2");
            for (int k = 0; k < 16; k++) {
                rights.record(k == record ? 2 : 1, NONE);
            }
            checks.equal("record " + record + " needs it", rights.idle(0), NONE);
        }
        checks.equal("no record needs it", Checks.with(1, 16, "s", "m k2").idle(0), 1);
        checks.equal("there is no record", Checks.with(1, 0, "s").idle(0), 0);
    }

    private void anyPurpose() {
        for (int purpose = 0; purpose < 4; purpose++) {
            checks.equal("masked for " + purpose, Checks.with(1, 1, "s", "m p" + purpose).idle(0), NONE);
            checks.equal("absent for " + purpose, Checks.with(1, 1, "s", "a f5 p" + purpose).idle(0), NONE);
            checks.equal("shown for " + purpose, Checks.with(1, 1, "s", "s p" + purpose).idle(0), 1);
            for (int field = 0; field < 6; field++) {
                String point = " f" + field + " p" + purpose;
                checks.equal("masked at" + point, Checks.with(1, 1, "s", "m" + point).idle(0), NONE);
                checks.equal("shown at" + point, Checks.with(1, 1, "s", "s" + point).idle(0), 1);
            }
        }
    }

    private void onTheDay() {
        RecordRights rights = Checks.with(1, 2, "s", "m g");
        rights.agreement(0, 0, 10, 20);
        int[] needed = {10, 15, 20};
        for (int day : needed) {
            checks.equal("an agreement on day " + day, rights.idle(day), NONE);
        }
        checks.equal("ahead of it", rights.idle(9), 1);
        checks.equal("behind it", rights.idle(21), 1);
        rights.embargo(0, 14);
        checks.equal("under embargo", rights.idle(14), 1);
        checks.equal("behind the embargo", rights.idle(15), NONE);
        rights.embargo(1, LAST_DAY);
        rights.embargo(0, LAST_DAY);
        checks.equal("all under embargo, on the last day", rights.idle(LAST_DAY), 0);
        rights.person(128);
        checks.equal("but for role 7", rights.idle(LAST_DAY), 1);
        checks.equal("no look is kept", rights.count(5), 0);
    }

    private void noneIsIdle() {
        checks.equal("no rules", Checks.with(1, 1).idle(0), NONE);
        checks.equal("no rules, nobody, nothing", new RecordRights().idle(LAST_DAY), NONE);
        checks.equal("one that is needed", Checks.with(1, 1, "m").idle(0), NONE);
        checks.equal("each masks a field of its own",
                Checks.with(1, 1, "m f0", "m f1", "m f2", "m f3", "m f4", "m f5").idle(0), NONE);
        checks.equal("absent and shown are needed both", Checks.with(1, 1, "a f0", "s").idle(0), NONE);
        checks.equal("absent where nothing is shown", Checks.with(1, 1, "a").idle(0), 0);
        checks.equal("absent twice", Checks.with(1, 1, "s", "a f0", "a f0").idle(0), 1);
    }

    private void idleOnWrongDay() {
        RecordRights rights = Checks.with(1, 1, "s", "s");
        for (int day : Checks.outside(0, LAST_DAY)) {
            checks.badArgument("day " + day, () -> rights.idle(day));
            checks.badArgument("day " + day + ", no rules", () -> new RecordRights().idle(day));
        }
        checks.equal("day 0", rights.idle(0), 0);
        checks.equal("the last day", rights.idle(LAST_DAY), 0);
    }

    private void countSigns() {
        RecordRights rights = new RecordRights();
        checks.equal("none", rights.count(0), 0);
        rights.unit(-1, 0, 0, 255);
        checks.equal("five", rights.count(0), 5);
        rights.unit(-1, -1, -1, -1);
        rights.unit(-1, -1, -1, -1);
        checks.equal("37", rights.count(0), 37);
        rights.unit(0, 1, 1, 1);
        checks.equal("40", rights.count(0), 40);
        checks.badState("41", () -> rights.unit(0, 0, 0, 1));
        checks.equal("40 yet", rights.count(0), 40);
        rights.rule();
        checks.equal("none again", rights.count(0), 0);
    }

    private void countRules() {
        RecordRights rights = new RecordRights();
        for (int k = 1; k <= 20; k++) {
            Checks.rule(rights, "s");
            checks.equal("rules", rights.count(1), k);
            checks.equal("told", rights.count(2), k);
        }
        for (int k = 1; k <= 20; k++) {
            rights.drop(20 - k);
            rights.drop(20 - k);
            checks.equal("rules, some dropped", rights.count(1), 20);
            checks.equal("told, some dropped", rights.count(2), 20 - k);
        }
    }

    private void countPersons() {
        RecordRights rights = new RecordRights();
        for (int k = 1; k <= 12; k++) {
            rights.person(0);
            checks.equal("persons", rights.count(3), k);
        }
        checks.badState("a thirteenth", () -> rights.person(0));
        checks.equal("twelve yet", rights.count(3), 12);
        checks.equal("no records", rights.count(4), 0);
    }

    private void countRecords() {
        RecordRights rights = new RecordRights();
        for (int k = 1; k <= 16; k++) {
            rights.record(0, 0);
            checks.equal("records", rights.count(4), k);
        }
        checks.badState("a seventeenth", () -> rights.record(0, 0));
        checks.equal("sixteen yet", rights.count(4), 16);
        checks.equal("no persons", rights.count(3), 0);
    }

    private void countLooks() {
        RecordRights rights = Checks.with(1, 1, "s !f5");
        for (int k = 1; k <= 101; k++) {
            rights.asks(0, 0, 5, 0, 0);
            rights.asks(0, 0, 0, 0, 0);
            checks.equal("kept looks", rights.count(5), k <= 100 ? k : 100);
        }
    }

    private void countRequests() {
        RecordRights rights = Checks.with(1, 1);
        for (int k = 1; k <= 60; k++) {
            rights.request(0, 0, 30 * k);
            checks.equal("kept requests", rights.count(6), k);
        }
        checks.badState("61", () -> rights.request(0, 0, 30 * 61));
        checks.equal("60 yet", rights.count(6), 60);
        RecordRights other = Checks.with(1, 1);
        other.limit(0, 0);
        other.request(0, 0, 0);
        checks.equal("one that is too many", other.count(6), 0);
    }

    private void countOfNothing() {
        RecordRights rights = Checks.with(1, 1, "s");
        for (int what : Checks.outside(0, 6)) {
            checks.badArgument("count(" + what + ")", () -> rights.count(what));
        }
        for (int what = 0; what <= 6; what++) {
            int right = what;
            checks.thrown("count(" + what + ")", () -> rights.count(right), null);
        }
    }
}
