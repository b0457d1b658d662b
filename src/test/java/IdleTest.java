/** Promise 18: idle. */
final class IdleTest {
    public static void main(String[] args) {
        Checks checks = new Checks();
        nobodyAndNothing(checks);
        coveredRules(checks);
        absentRules(checks);
        dayMatters(checks);
        droppedRules(checks);
        everyPointMatters(checks);
        wrongDays(checks);
        checks.end();
    }

    private static RecordRights with(String... texts) {
        RecordRights rights = new RecordRights();
        rights.person(1);
        rights.record(0, 0);
        for (String text : texts) {
            Checks.rule(rights, text);
        }
        return rights;
    }

    private static void nobodyAndNothing(Checks checks) {
        RecordRights rights = new RecordRights();
        checks.equal("no rules", rights.idle(0), RecordRights.NONE);
        Checks.rule(rights, "s");
        checks.equal("nobody", rights.idle(0), 0);
        rights.person(0);
        checks.equal("nothing", rights.idle(0), 0);
        rights.record(0, 0);
        checks.equal("somebody and something", rights.idle(0), RecordRights.NONE);
    }

    private static void coveredRules(Checks checks) {
        checks.equal("m, s", with("m", "s").idle(0), 0);
        checks.equal("s, s: each could go", with("s", "s").idle(0), 0);
        checks.equal("s, m f0", with("s", "m f0").idle(0), RecordRights.NONE);
        checks.equal("s, s f0", with("s", "s f0").idle(0), 1);
        checks.equal("m f0, s !f0", with("m f0", "s !f0").idle(0), RecordRights.NONE);
        checks.equal("s, m k1: no such record", with("s", "m k1").idle(0), 1);
        checks.equal("s, m r1: no such person", with("s", "m r1").idle(0), 1);
        checks.equal("s, m r0", with("s", "m r0").idle(0), 0);
    }

    private static void absentRules(Checks checks) {
        checks.equal("a alone", with("a").idle(0), 0);
        checks.equal("s, a: s could go", with("s", "a").idle(0), 0);
        checks.equal("s, a f0", with("s", "a f0").idle(0), RecordRights.NONE);
        checks.equal("a f0, s", with("a f0", "s").idle(0), RecordRights.NONE);
        checks.equal("s, a f0, a f0: each could go", with("s", "a f0", "a f0").idle(0), 1);
        checks.equal("m f0, a f0, a f0", with("m f0", "a f0", "a f0").idle(0), 0);
        checks.equal("s !f0, a f0", with("s !f0", "a f0").idle(0), 1);
        checks.equal("s, a f0 p0, a f0", with("s", "a f0 p0", "a f0").idle(0), 1);
        checks.equal("s, a f0 p0, a f0 p1", with("s", "a f0 p0", "a f0 p1").idle(0), RecordRights.NONE);
        checks.equal("m, a f0, s f0", with("m", "a f0", "s f0").idle(0), 2);
    }

    private static void dayMatters(Checks checks) {
        RecordRights rights = with("s", "m g");
        rights.agreement(0, 0, 10, 20);
        rights.embargo(0, 12);
        checks.equal("under embargo", rights.idle(12), 0);
        checks.equal("with agreement", rights.idle(13), 0);
        checks.equal("without agreement", rights.idle(21), 1);
        rights.record(0, 0);
        checks.equal("another record without agreement", rights.idle(13), RecordRights.NONE);
        checks.equal("the embargo hides the masking", rights.idle(12), 1);
        rights.person(128);
        checks.equal("role 7 without agreement", rights.idle(12), 1);
        rights.agreement(1, 0, 12, 12);
        checks.equal("role 7 with agreement", rights.idle(12), RecordRights.NONE);
    }

    private static void droppedRules(Checks checks) {
        RecordRights rights = with("s", "s", "s");
        checks.equal("three", rights.idle(0), 0);
        rights.drop(0);
        checks.equal("two", rights.idle(0), 1);
        rights.drop(1);
        checks.equal("one is needed", rights.idle(0), RecordRights.NONE);
        rights.drop(2);
        checks.equal("none is told", rights.idle(0), RecordRights.NONE);
        checks.equal("idle drops nothing", with("s", "s").count(2), 2);
        RecordRights asked = with("s");
        asked.idle(0);
        checks.equal("idle keeps no look", asked.count(5), 0);
    }

    private static void everyPointMatters(Checks checks) {
        RecordRights rights = new RecordRights();
        for (int k = 0; k < 12; k++) {
            rights.person(k == 11 ? 1 : 0);
        }
        for (int k = 0; k < 16; k++) {
            rights.record(k == 15 ? 3 : 0, RecordRights.NONE);
        }
        Checks.rule(rights, "s");
        checks.equal("s", rights.idle(100000), RecordRights.NONE);
        Checks.rule(rights, "m r0 k3 f5 p3");
        checks.equal("needed at the last point alone", rights.idle(100000), RecordRights.NONE);
        Checks.rule(rights, "m r0 k3 f5 p3");
        checks.equal("twice there", rights.idle(100000), 1);
    }

    private static void wrongDays(Checks checks) {
        RecordRights rights = with("s", "s");
        checks.badArgument("day -1", () -> rights.idle(-1));
        checks.badArgument("day 100001", () -> rights.idle(100001));
        checks.equal("day 100000", rights.idle(100000), 0);
    }
}
