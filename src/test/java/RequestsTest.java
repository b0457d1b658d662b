/** Promises 16 and 17: request, limit. */
final class RequestsTest {
    public static void main(String[] args) {
        Checks checks = new Checks();
        thirtyDays(checks);
        ofThePerson(checks);
        limits(checks);
        wrongRequests(checks);
        requestsAreLimited(checks);
        checks.end();
    }

    private static RecordRights two() {
        RecordRights rights = new RecordRights();
        rights.person(0);
        rights.person(0);
        rights.record(0, 0);
        rights.record(0, 0);
        return rights;
    }

    private static void thirtyDays(Checks checks) {
        RecordRights rights = two();
        checks.equal("first", rights.request(0, 0, 100), 1);
        checks.equal("second", rights.request(0, 0, 100), 2);
        checks.equal("third, 29 days on", rights.request(0, 0, 129), 3);
        checks.equal("fourth is too many", rights.request(0, 0, 129), RecordRights.NONE);
        checks.equal("it is not kept", rights.count(6), 3);
        checks.equal("30 days on the first two are out", rights.request(0, 0, 130), 2);
        checks.equal("later days do not count", rights.request(0, 0, 99), 1);
        checks.equal("earlier days do", rights.request(0, 0, 100), RecordRights.NONE);
        checks.equal("day 0", rights.request(0, 0, 0), 1);
        checks.equal("day 100000", rights.request(0, 0, 100000), 1);
    }

    private static void ofThePerson(Checks checks) {
        RecordRights rights = two();
        checks.equal("record 0", rights.request(0, 0, 5), 1);
        checks.equal("record 1 counts with it", rights.request(0, 1, 5), 2);
        checks.equal("another person does not", rights.request(1, 1, 5), 1);
        checks.equal("third", rights.request(0, 0, 5), 3);
        checks.equal("too many of one", rights.request(0, 1, 5), RecordRights.NONE);
        checks.equal("not of the other", rights.request(1, 0, 5), 2);
    }

    private static void limits(Checks checks) {
        RecordRights rights = two();
        checks.equal("3 at first", rights.limit(0, 0), 3);
        checks.equal("none may", rights.request(0, 0, 5), RecordRights.NONE);
        checks.equal("it was 0", rights.limit(0, 1), 0);
        checks.equal("one may", rights.request(0, 0, 5), 1);
        checks.equal("two may not", rights.request(0, 0, 5), RecordRights.NONE);
        checks.equal("it was 1", rights.limit(0, 60), 1);
        checks.equal("two may", rights.request(0, 0, 5), 2);
        checks.equal("the other has its own", rights.limit(1, 2), 3);
        checks.badArgument("limit -1", () -> rights.limit(0, -1));
        checks.badArgument("limit 61", () -> rights.limit(0, 61));
        checks.noSuch("person -1", () -> rights.limit(-1, 3));
        checks.noSuch("person 2 is looked at first", () -> rights.limit(2, 61));
        checks.equal("wrong calls change nothing", rights.limit(0, 1), 60);
        checks.equal("kept ones above the limit", rights.request(0, 0, 5), RecordRights.NONE);
        checks.equal("stay", rights.count(6), 2);
    }

    private static void wrongRequests(Checks checks) {
        RecordRights rights = two();
        checks.noSuch("person -1", () -> rights.request(-1, 0, 5));
        checks.noSuch("person 2", () -> rights.request(2, 0, 5));
        checks.noSuch("record -1", () -> rights.request(0, -1, 5));
        checks.noSuch("record 2 is looked at first", () -> rights.request(0, 2, -1));
        checks.badArgument("day -1", () -> rights.request(0, 0, -1));
        checks.badArgument("day 100001", () -> rights.request(0, 0, 100001));
        checks.equal("none is kept", rights.count(6), 0);
    }

    private static void requestsAreLimited(Checks checks) {
        RecordRights rights = two();
        rights.limit(0, 60);
        for (int k = 1; k <= 60; k++) {
            checks.equal("request " + k, rights.request(0, 0, 7), k);
        }
        checks.badState("request 61", () -> rights.request(1, 0, 7));
        checks.badState("request 61, that is too many", () -> rights.request(0, 0, 7));
        checks.badArgument("days are looked at first", () -> rights.request(0, 0, -1));
        checks.noSuch("records are looked at first", () -> rights.request(0, 2, 7));
        checks.equal("60 are kept", rights.count(6), 60);
    }
}
