/** Promises 14 and 15: export, exported. */
final class ExportsTest {
    public static void main(String[] args) {
        Checks checks = new Checks();
        noFieldIsAbsent(checks);
        purposeThree(checks);
        embargoAndAgreement(checks);
        asItWas(checks);
        wrongExports(checks);
        checks.end();
    }

    private static RecordRights fourRecords() {
        RecordRights rights = new RecordRights();
        rights.person(0);
        rights.person(128);
        for (int kind = 0; kind < 4; kind++) {
            rights.record(kind, kind);
        }
        return rights;
    }

    private static void noFieldIsAbsent(Checks checks) {
        for (int field = 0; field < 6; field++) {
            RecordRights rights = fourRecords();
            checks.equal("no rule", rights.export(0, 0), 0);
            Checks.rule(rights, "m");
            checks.equal("masked is not absent", rights.export(0, 0), 4);
            Checks.rule(rights, "a k1 f" + field);
            checks.equal("field " + field + " of one is absent", rights.export(0, 0), 3);
            int[] due = {0, 2, 3};
            for (int k = 0; k < 3; k++) {
                checks.equal("exported(" + k + ")", rights.exported(k), due[k]);
            }
            checks.noSuch("exported(3)", () -> rights.exported(3));
            checks.noSuch("exported(-1)", () -> rights.exported(-1));
            checks.equal("an export keeps no look", rights.count(5), 0);
        }
    }

    private static void purposeThree(Checks checks) {
        RecordRights rights = fourRecords();
        Checks.rule(rights, "s p3");
        checks.equal("shown for purpose 3", rights.export(0, 0), 4);
        Checks.rule(rights, "a !p3");
        checks.equal("absent for the others", rights.export(0, 0), 4);
        Checks.rule(rights, "a p0");
        Checks.rule(rights, "a p1");
        Checks.rule(rights, "a p2");
        checks.equal("absent for each of the others", rights.export(0, 0), 4);
        Checks.rule(rights, "a p3 k0");
        checks.equal("absent for purpose 3", rights.export(0, 0), 3);
    }

    private static void embargoAndAgreement(Checks checks) {
        RecordRights rights = fourRecords();
        Checks.rule(rights, "s !k2");
        Checks.rule(rights, "m g");
        rights.embargo(0, 9);
        rights.agreement(0, 2, 9, 9);
        checks.equal("on day 9", rights.export(0, 9), 3);
        checks.equal("without the one under embargo", rights.exported(0), 1);
        checks.equal("with the one agreed upon", rights.exported(1), 2);
        checks.equal("on day 10", rights.export(0, 10), 3);
        checks.equal("with the one that was under embargo", rights.exported(0), 0);
        checks.equal("without the one agreed upon", rights.exported(2), 3);
        checks.equal("with role 7", rights.export(1, 9), 3);
        checks.equal("an embargo does not hold", rights.exported(0), 0);
    }

    private static void asItWas(Checks checks) {
        RecordRights rights = fourRecords();
        checks.noSuch("no export yet", () -> rights.exported(0));
        Checks.rule(rights, "s k1");
        checks.equal("one", rights.export(0, 5), 1);
        rights.drop(0);
        rights.embargo(1, 100);
        rights.record(1, 1);
        checks.equal("as it was", rights.exported(0), 1);
        checks.noSuch("there is one alone", () -> rights.exported(1));
        checks.noSuch("a wrong person", () -> rights.export(2, 5));
        checks.badArgument("a wrong day", () -> rights.export(0, 100001));
        checks.equal("wrong calls change nothing", rights.exported(0), 1);
        checks.equal("an empty one", rights.export(0, 5), 0);
        checks.noSuch("is the latest", () -> rights.exported(0));
    }

    private static void wrongExports(Checks checks) {
        RecordRights rights = fourRecords();
        for (int k = 4; k < 16; k++) {
            rights.record(0, RecordRights.NONE);
        }
        Checks.rule(rights, "s");
        checks.equal("all sixteen", rights.export(1, 100000), 16);
        checks.equal("the last one", rights.exported(15), 15);
        checks.noSuch("exported(16)", () -> rights.exported(16));
        checks.noSuch("person -1", () -> rights.export(-1, 0));
        checks.noSuch("person 2 is looked at first", () -> rights.export(2, -1));
        checks.badArgument("day -1", () -> rights.export(0, -1));
        checks.badArgument("day 100001", () -> rights.export(0, 100001));
    }
}
