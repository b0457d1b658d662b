/** Promises 10, 12 and 13: asks, look, looked. */
final class LooksTest {
    public static void main(String[] args) {
        Checks checks = new Checks();
        conditions(checks);
        lastRuleThatSuits(checks);
        severalConditions(checks);
        wrongAsks(checks);
        keptLooks(checks);
        looksAreLimited(checks);
        lookers(checks);
        checks.end();
    }

    private static void conditions(Checks checks) {
        one(checks, "r3", 1 << 3, 1 << 4);
        for (int k = 0; k < 4; k++) {
            RecordRights rights = open();
            Checks.rule(rights, "s k" + k);
            for (int kind = 0; kind < 4; kind++) {
                checks.equal("k" + k, rights.asks(0, kind, 0, 0, 0), kind == k ? 2 : 0);
            }
            Checks.rule(rights, "m !k" + k);
            for (int kind = 0; kind < 4; kind++) {
                checks.equal("!k" + k, rights.asks(0, kind, 0, 0, 0), kind == k ? 2 : 1);
            }
        }
        for (int f = 0; f < 6; f++) {
            RecordRights rights = open();
            Checks.rule(rights, "s f" + f);
            Checks.rule(rights, "m !f" + f);
            for (int field = 0; field < 6; field++) {
                checks.equal("f" + f, rights.asks(0, 0, field, 0, 0), field == f ? 2 : 1);
            }
        }
        for (int p = 0; p < 4; p++) {
            RecordRights rights = open();
            Checks.rule(rights, "s p" + p);
            Checks.rule(rights, "m !p" + p);
            for (int purpose = 0; purpose < 4; purpose++) {
                checks.equal("p" + p, rights.asks(0, 0, 0, purpose, 0), purpose == p ? 2 : 1);
            }
        }
        for (int c = 0; c < 8; c++) {
            RecordRights rights = open();
            Checks.rule(rights, "s c" + c);
            Checks.rule(rights, "m !c" + c);
            for (int community = -1; community < 8; community++) {
                int due = community == c ? 2 : 1;
                checks.equal("c" + c, rights.asks(0, 5 + community, 0, 0, 0), due);
            }
        }
    }

    private static void one(Checks checks, String condition, int with, int without) {
        RecordRights rights = new RecordRights();
        rights.person(with);
        rights.person(without);
        rights.record(0, 0);
        Checks.rule(rights, "s " + condition);
        checks.equal(condition, rights.asks(0, 0, 0, 0, 0), 2);
        checks.equal("not " + condition, rights.asks(1, 0, 0, 0, 0), 0);
        Checks.rule(rights, "m !" + condition);
        checks.equal("!" + condition, rights.asks(0, 0, 0, 0, 0), 2);
        checks.equal("not !" + condition, rights.asks(1, 0, 0, 0, 0), 1);
    }

    /** Records 0 .. 3 are of these kinds, 4 of no community, 5 .. 12 of communities 0 .. 7. */
    private static RecordRights open() {
        RecordRights rights = new RecordRights();
        rights.person(0);
        for (int kind = 0; kind < 4; kind++) {
            rights.record(kind, RecordRights.NONE);
        }
        for (int community = -1; community < 8; community++) {
            rights.record(0, community);
        }
        return rights;
    }

    private static void lastRuleThatSuits(Checks checks) {
        RecordRights rights = open();
        checks.equal("no rule", rights.asks(0, 0, 0, 0, 0), RecordRights.ABSENT);
        Checks.rule(rights, "s");
        checks.equal("s", rights.asks(0, 0, 0, 0, 0), RecordRights.SHOWN);
        Checks.rule(rights, "m f0");
        checks.equal("m behind s", rights.asks(0, 0, 0, 0, 0), RecordRights.MASKED);
        checks.equal("m that does not suit", rights.asks(0, 0, 1, 0, 0), RecordRights.SHOWN);
        Checks.rule(rights, "s p1");
        checks.equal("s behind m", rights.asks(0, 0, 0, 1, 0), RecordRights.SHOWN);
        Checks.rule(rights, "a f2 p2");
        checks.equal("a suits", rights.asks(0, 0, 2, 2, 0), RecordRights.ABSENT);
        checks.equal("one of two conditions", rights.asks(0, 0, 2, 1, 0), RecordRights.SHOWN);
        checks.equal("the other one of two", rights.asks(0, 0, 0, 2, 0), RecordRights.MASKED);
        Checks.rule(rights, "s");
        checks.equal("a ahead of s still bars", rights.asks(0, 0, 2, 2, 0), RecordRights.ABSENT);
        checks.equal("the last s counts", rights.asks(0, 0, 0, 0, 0), RecordRights.SHOWN);
        Checks.rule(rights, "a r1 !r1");
        Checks.rule(rights, "a k0 k1");
        checks.equal("rules that never suit", rights.asks(0, 0, 0, 0, 0), RecordRights.SHOWN);
    }

    private static void severalConditions(Checks checks) {
        RecordRights rights = open();
        Checks.rule(rights, "s r0");
        checks.equal("no community is no role", rights.asks(0, 0, 0, 0, 0), RecordRights.ABSENT);
        Checks.rule(rights, "m !f0 !f1 !p0");
        checks.equal("the first turned one fails", rights.asks(0, 0, 0, 1, 0), RecordRights.ABSENT);
        checks.equal("the second turned one fails", rights.asks(0, 0, 1, 1, 0), RecordRights.ABSENT);
        checks.equal("the third turned one fails", rights.asks(0, 0, 2, 0, 0), RecordRights.ABSENT);
        checks.equal("none fails", rights.asks(0, 0, 2, 1, 0), RecordRights.MASKED);
        Checks.rule(rights, "m f0");
        checks.equal("an earlier rule masks yet", rights.asks(0, 0, 2, 1, 0), RecordRights.MASKED);
        Checks.rule(rights, "s f1");
        Checks.rule(rights, "s f3");
        checks.equal("an earlier rule shows yet", rights.asks(0, 0, 1, 1, 0), RecordRights.SHOWN);
        Checks.rule(rights, "a f4");
        Checks.rule(rights, "a f5");
        checks.equal("an earlier rule bars yet", rights.asks(0, 0, 4, 1, 0), RecordRights.ABSENT);
        RecordRights other = open();
        Checks.rule(other, "s");
        Checks.rule(other, "m f0");
        Checks.rule(other, "m f1");
        checks.equal("the first of two that mask", other.asks(0, 0, 0, 0, 0), RecordRights.MASKED);
        checks.equal("the second of two that mask", other.asks(0, 0, 1, 0, 0), RecordRights.MASKED);
        checks.equal("neither of them", other.asks(0, 0, 2, 0, 0), RecordRights.SHOWN);
    }

    private static void wrongAsks(Checks checks) {
        RecordRights rights = open();
        Checks.rule(rights, "s");
        checks.noSuch("person -1", () -> rights.asks(-1, 0, 0, 0, 0));
        checks.noSuch("person 1", () -> rights.asks(1, 0, 0, 0, 0));
        checks.noSuch("record -1", () -> rights.asks(0, -1, 0, 0, 0));
        checks.noSuch("record 13", () -> rights.asks(0, 13, 0, 0, 0));
        checks.noSuch("field -1", () -> rights.asks(0, 0, -1, 0, 0));
        checks.noSuch("field 6", () -> rights.asks(0, 0, 6, 0, 0));
        checks.noSuch("purpose -1", () -> rights.asks(0, 0, 0, -1, 0));
        checks.noSuch("purpose 4 is looked at first", () -> rights.asks(0, 0, 0, 4, -1));
        checks.badArgument("day -1", () -> rights.asks(0, 0, 0, 0, -1));
        checks.badArgument("day 100001", () -> rights.asks(0, 0, 0, 0, 100001));
        checks.equal("no look is kept", rights.count(5), 0);
        checks.equal("the last day", rights.asks(0, 0, 0, 0, 100000), RecordRights.SHOWN);
    }

    private static void keptLooks(Checks checks) {
        RecordRights rights = open();
        rights.person(0);
        Checks.rule(rights, "s");
        Checks.rule(rights, "m f4");
        Checks.rule(rights, "a f5");
        rights.asks(1, 12, 3, 2, 99999);
        rights.asks(0, 1, 5, 1, 7);
        rights.asks(0, 1, 4, 1, 7);
        int[][] due = {{1, 12, 3, 2, 99999, RecordRights.SHOWN}, {0, 1, 4, 1, 7, RecordRights.MASKED}};
        checks.equal("count(5)", rights.count(5), 2);
        rights.drop(0);
        for (int k = 0; k < 2; k++) {
            for (int what = 0; what < 6; what++) {
                checks.equal("look(" + k + ", " + what + ")", rights.look(k, what), due[k][what]);
            }
        }
        checks.noSuch("look(-1, 0)", () -> rights.look(-1, 0));
        checks.noSuch("look(2, 0)", () -> rights.look(2, 0));
        checks.noSuch("look(0, -1)", () -> rights.look(0, -1));
        checks.noSuch("look(0, 6)", () -> rights.look(0, 6));
        checks.noSuch("look(1, 6)", () -> rights.look(1, 6));
    }

    private static void looksAreLimited(Checks checks) {
        RecordRights rights = open();
        rights.person(0);
        Checks.rule(rights, "s");
        for (int day = 0; day < 100; day++) {
            checks.equal("look " + day, rights.asks(0, 0, 0, 0, day), RecordRights.SHOWN);
        }
        checks.equal("100 are kept", rights.count(5), 100);
        checks.equal("a further one is answered", rights.asks(1, 0, 0, 0, 5), RecordRights.SHOWN);
        checks.equal("and not kept", rights.count(5), 100);
        checks.equal("its person did not look", rights.looked(0, 1), RecordRights.NONE);
        checks.equal("the last kept one", rights.look(99, 4), 99);
        checks.noSuch("look(100, 0)", () -> rights.look(100, 0));
    }

    private static void lookers(Checks checks) {
        RecordRights rights = open();
        for (int k = 1; k < 12; k++) {
            rights.person(0);
        }
        Checks.rule(rights, "s !f5");
        rights.asks(11, 2, 0, 0, 0);
        rights.asks(4, 2, 0, 0, 0);
        rights.asks(11, 2, 1, 0, 0);
        rights.asks(7, 2, 5, 0, 0);
        rights.asks(5, 3, 0, 0, 0);
        rights.asks(0, 2, 0, 0, 0);
        int[] due = {0, 4, 11, RecordRights.NONE, RecordRights.NONE};
        for (int k = 0; k < due.length; k++) {
            checks.equal("looked(2, " + k + ")", rights.looked(2, k), due[k]);
        }
        checks.equal("looked(3, 0)", rights.looked(3, 0), 5);
        checks.equal("looked(0, 0)", rights.looked(0, 0), RecordRights.NONE);
        checks.equal("a high place", rights.looked(2, Integer.MAX_VALUE), RecordRights.NONE);
        checks.noSuch("looked(-1, 0)", () -> rights.looked(-1, 0));
        checks.noSuch("looked(13, 0)", () -> rights.looked(13, 0));
        checks.noSuch("looked(2, -1)", () -> rights.looked(2, -1));
    }
}
