/** Promise 19: count. */
final class CountTest {
    public static void main(String[] args) {
        Checks checks = new Checks();
        RecordRights rights = new RecordRights();
        for (int k = 0; k < 6; k++) {
            Checks.rule(rights, "s");
        }
        rights.drop(2);
        rights.person(0);
        rights.record(0, 0);
        rights.record(0, 0);
        for (int k = 0; k < 3; k++) {
            rights.record(0, 0);
        }
        for (int k = 0; k < 4; k++) {
            rights.asks(0, k, 0, 0, 0);
        }
        rights.request(0, 0, 0);
        rights.request(0, 0, 0);
        rights.unit(0x01010101, 0x01010101, -1, 0);
        int[] due = {12, 6, 5, 1, 5, 4, 2};
        for (int what = 0; what < due.length; what++) {
            checks.equal("count(" + what + ")", rights.count(what), due[what]);
        }
        checks.badArgument("count(-1)", () -> rights.count(-1));
        checks.badArgument("count(7)", () -> rights.count(7));
        checks.badArgument("count(the lowest)", () -> rights.count(Integer.MIN_VALUE));
        checks.badArgument("count(the highest)", () -> rights.count(Integer.MAX_VALUE));
        checks.end();
    }
}
