/** Promises 2 to 4: unit, rule, drop. */
final class RuleTextsTest {
    private static final String FORTY = "s r0 r1 r2 r3 r4 r5 r6 r7 k0 f0 p0 c0 !g";

    public static void main(String[] args) {
        Checks checks = new Checks();
        padCountsSigns(checks);
        padIsLimited(checks);
        padKeepsOrder(checks);
        wholeRules(checks);
        brokenRules(checks);
        rulesAreLimited(checks);
        dropping(checks);
        checks.end();
    }

    private static void padCountsSigns(Checks checks) {
        RecordRights rights = new RecordRights();
        checks.equal("unit of none", rights.unit(0, 0, 0, 0), 0);
        checks.equal("zeros between signs are none", rights.unit(0x73000000, 0, 0x00200000, 0x00720000), 3);
        checks.equal("the pad goes on", rights.unit(0, 0, 0, '0'), 4);
        checks.equal("count(0)", rights.count(0), 4);
        checks.equal("the signs are \"s r0\"", rights.rule(), 0);
        checks.equal("negative words hold four signs", rights.unit(-1, Integer.MIN_VALUE, 0, 0), 5);
        checks.equal("sign 255 is no answer", rights.rule(), -1);
        checks.equal("sign 's' + 256 is cut off to two signs", rights.unit('s' + 256, 0, 0, 0), 2);
        checks.equal("sign 1 behind s", rights.rule(), -2);
    }

    private static void padIsLimited(Checks checks) {
        RecordRights rights = new RecordRights();
        checks.equal("40 signs", Checks.write(rights, FORTY), 40);
        checks.badState("41 signs", () -> rights.unit('x', 0, 0, 0));
        checks.equal("nothing more is nothing wrong", rights.unit(0, 0, 0, 0), 40);
        checks.equal("the pad is as it was", rights.rule(), 0);
        Checks.write(rights, FORTY.substring(0, 38));
        checks.badState("three more than 38", () -> rights.unit(' ', '!', 0, 'g'));
        checks.equal("none of the three came", rights.count(0), 38);
        checks.equal("two more than 38", Checks.write(rights, "!g"), 40);
        checks.equal("40 signs make a rule", rights.rule(), 1);
        for (int shift = 0; shift < 32; shift += 8) {
            everySignCounts(checks, 1 << shift);
            everySignCounts(checks, 128 << shift);
        }
    }

    private static void everySignCounts(Checks checks, int word) {
        RecordRights rights = new RecordRights();
        Checks.write(rights, FORTY.substring(0, 39));
        checks.badState("two more than 39, ahead", () -> rights.unit(word, word, 0, 0));
        checks.badState("two more than 39, behind", () -> rights.unit(0, 0, word, word));
        checks.equal("one more than 39", rights.unit(0, 0, word, 0), 40);
        checks.badState("one more than 40, as a", () -> rights.unit(word, 0, 0, 0));
        checks.badState("one more than 40, as b", () -> rights.unit(0, word, 0, 0));
        checks.badState("one more than 40, as c", () -> rights.unit(0, 0, word, 0));
        checks.badState("one more than 40, as d", () -> rights.unit(0, 0, 0, word));
        checks.equal("none of them came", rights.count(0), 40);
    }

    private static void padKeepsOrder(Checks checks) {
        RecordRights rights = new RecordRights();
        rights.person(0);
        rights.record(1, 2);
        rights.unit(0x3163206D, 0x20, 0x6B, 0x31);
        checks.equal("\"m c1 k1\" is a rule", rights.rule(), 0);
        checks.equal("it asks for community 1", rights.asks(0, 0, 0, 0, 0), RecordRights.ABSENT);
        rights.unit(0x3263206D, 0x20, 0x6B, 0x31);
        checks.equal("\"m c2 k1\" is a rule", rights.rule(), 1);
        checks.equal("it asks for community 2", rights.asks(0, 0, 0, 0, 0), RecordRights.MASKED);
    }

    private static void wholeRules(Checks checks) {
        String[] whole = {
            "s", "m", "a", "s g", "s !g", "m r0", "m r7", "a k0", "a k3", "s f0", "s f5", "s p0", "s p3",
            "s c0", "s c7", "s !r7 !c7 !g", "s r1 !r1 g !g g",
        };
        RecordRights rights = new RecordRights();
        for (int k = 0; k < whole.length; k++) {
            checks.equal("rule \"" + whole[k] + "\"", Checks.rule(rights, whole[k]), k);
            checks.equal("the pad is empty behind it", rights.count(0), 0);
        }
        checks.equal("count(1)", rights.count(1), whole.length);
        checks.equal("count(2)", rights.count(2), whole.length);
    }

    private static void brokenRules(Checks checks) {
        broken(checks, "", 0);
        broken(checks, " s", 0);
        broken(checks, "S", 0);
        broken(checks, "ss", 1);
        broken(checks, "sg", 1);
        broken(checks, "s ", 2);
        broken(checks, "s  g", 2);
        broken(checks, "s x", 2);
        broken(checks, "s 1", 2);
        broken(checks, "s r", 3);
        broken(checks, "s !", 3);
        broken(checks, "s !!g", 3);
        broken(checks, "s ! g", 3);
        broken(checks, "s !r", 4);
        broken(checks, "s r!1", 3);
        broken(checks, "s r/", 3);
        broken(checks, "s r8", 3);
        broken(checks, "s k4", 3);
        broken(checks, "s f6", 3);
        broken(checks, "s p4", 3);
        broken(checks, "s c8", 3);
        broken(checks, "s r12", 4);
        broken(checks, "s g1", 3);
        broken(checks, "s gg", 3);
        broken(checks, "s g ", 4);
        broken(checks, FORTY.substring(0, 39), 39);
        broken(checks, FORTY.substring(0, 38) + " r", 38);
        broken(checks, FORTY.substring(0, 37) + " !r", 40);
    }

    private static void broken(Checks checks, String text, int place) {
        RecordRights rights = new RecordRights();
        checks.equal("rule \"" + text + "\"", Checks.rule(rights, text), RecordRights.NONE - place);
        checks.equal("the pad is empty behind \"" + text + "\"", rights.count(0), 0);
        checks.equal("no rule from \"" + text + "\"", rights.count(1), 0);
        checks.equal("a rule after \"" + text + "\"", Checks.rule(rights, "s"), 0);
    }

    private static void rulesAreLimited(Checks checks) {
        RecordRights rights = new RecordRights();
        rights.person(0);
        rights.record(0, 0);
        for (int k = 0; k < 20; k++) {
            checks.equal("rule " + k, Checks.rule(rights, k == 19 ? "s" : "m"), k);
        }
        checks.equal("the twentieth counts", rights.asks(0, 0, 0, 0, 0), RecordRights.SHOWN);
        rights.drop(3);
        checks.badState("rule 20 of an empty pad", () -> rights.rule());
        checks.equal("the pad takes signs", Checks.write(rights, "m"), 1);
        checks.badState("rule 20", () -> rights.rule());
        checks.equal("the pad is as it was", rights.count(0), 1);
        checks.equal("rules are as they were", rights.count(1), 20);
        checks.equal("and those told", rights.count(2), 19);
    }

    private static void dropping(Checks checks) {
        RecordRights rights = new RecordRights();
        rights.person(0);
        rights.record(0, 0);
        checks.equal("first", Checks.rule(rights, "m"), 0);
        checks.equal("second", Checks.rule(rights, "s"), 1);
        checks.noSuch("drop(-1)", () -> rights.drop(-1));
        checks.noSuch("drop(2)", () -> rights.drop(2));
        checks.holds("drop(1)", rights.drop(1));
        checks.equal("the first counts again", rights.asks(0, 0, 0, 0, 0), RecordRights.MASKED);
        checks.fails("drop(1) again", rights.drop(1));
        checks.equal("count(1)", rights.count(1), 2);
        checks.equal("count(2)", rights.count(2), 1);
        checks.equal("numbers go on", Checks.rule(rights, "a"), 2);
        checks.equal("a rule of ABSENT", rights.asks(0, 0, 0, 0, 0), RecordRights.ABSENT);
        checks.holds("drop(2)", rights.drop(2));
        checks.equal("bars no more", rights.asks(0, 0, 0, 0, 0), RecordRights.MASKED);
        checks.holds("drop(0)", rights.drop(0));
        checks.equal("none is left", rights.asks(0, 0, 0, 0, 0), RecordRights.ABSENT);
    }
}
