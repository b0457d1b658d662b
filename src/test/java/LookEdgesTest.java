/** Promises 10 and 12 to 15: each sentence that names an edge has a test of its own. */
final class LookEdgesTest {
    private static final int NONE = RecordRights.NONE;
    private static final int ABSENT = RecordRights.ABSENT;
    private static final int MASKED = RecordRights.MASKED;
    private static final int SHOWN = RecordRights.SHOWN;
    private static final int LAST_DAY = 100000;

    private final Checks checks = new Checks();

    public static void main(String[] args) {
        LookEdgesTest test = new LookEdgesTest();
        test.looks();
        test.exports();
        test.checks.end();
    }

    private void looks() {
        checks.sentence("the look is kept, if it is not ABSENT", this::notAbsent);
        checks.sentence("(at most 100 of all; further ones not)", this::atMostHundred);
        checks.sentence("asks: NoSuchElementException", this::asksOfNone);
        checks.sentence("asks: IllegalArgumentException: day.", this::asksOnWrongDay);
        checks.sentence("Of the k-th kept look: 0 the person, 1 the record, 2 the field, 3 the purpose, 4 the day, "
                + "5 what was got.", this::partsOfLooks);
        checks.sentence("NoSuchElementException: there is none", this::noLook);
        checks.sentence("NoSuchElementException: .. or what is none of these.", this::noPart);
        checks.sentence("The k-th person, by numbers, of whom a look at a record is kept", this::kthPerson);
        checks.sentence("looked: NONE", this::lookedByNone);
        checks.sentence("NoSuchElementException: record", this::lookedAtNoRecord);
        checks.sentence("NoSuchElementException: .. or k is below 0.", this::lookedBelow);
    }

    private void exports() {
        checks.sentence("How many records an export holds.", this::howManyRecords);
        checks.sentence("export: NoSuchElementException", this::exportForNone);
        checks.sentence("export: IllegalArgumentException: day.", this::exportOnWrongDay);
        checks.sentence("The k-th record, by numbers", this::kthRecord);
        checks.sentence("of the latest export", this::latestExport);
        checks.sentence("as it was", this::asItWas);
        checks.sentence("exported: NoSuchElementException: there is none.", this::noneExported);
    }

    private void notAbsent() {
        RecordRights rights = Checks.with(1, 1, "s f0", "m f1", "a f2", "s f2");
        int[] due = {SHOWN, MASKED, ABSENT, ABSENT, ABSENT, ABSENT};
        int[] kept = {1, 2, 2, 2, 2, 2};
        for (int field = 0; field < 6; field++) {
            checks.equal("field " + field, rights.asks(0, 0, field, 0, 9), due[field]);
            checks.equal("kept looks", rights.count(5), kept[field]);
        }
        rights.embargo(0, 9);
        checks.equal("under embargo", rights.asks(0, 0, 0, 0, 9), ABSENT);
        checks.equal("is not kept", rights.count(5), 2);
        checks.equal("the same look again", rights.asks(0, 0, 0, 0, 10), SHOWN);
        checks.equal("is kept again", rights.count(5), 3);
    }

    private void atMostHundred() {
        RecordRights rights = Checks.with(3, 1, "s !f5");
        for (int k = 0; k < 99; k++) {
            rights.asks(0, 0, 0, 0, k);
        }
        rights.asks(1, 0, 5, 0, 99);
        checks.equal("an absent one takes no place", rights.count(5), 99);
        checks.equal("the hundredth", rights.asks(1, 0, 4, 3, 99), SHOWN);
        checks.equal("is kept", rights.count(5), 100);
        checks.equal("and last", rights.look(99, 0), 1);
        checks.equal("one more is answered", rights.asks(2, 0, 4, 3, 99), SHOWN);
        checks.equal("another one is absent", rights.asks(2, 0, 5, 3, 99), ABSENT);
        checks.equal("none is kept", rights.count(5), 100);
        checks.equal("the first is as it was", rights.look(0, 0), 0);
        checks.equal("the last is as it was", rights.look(99, 0), 1);
        checks.noSuch("there is no 101st", () -> rights.look(100, 0));
        checks.equal("two persons looked", rights.looked(0, 1), 1);
        checks.equal("a third did not", rights.looked(0, 2), NONE);
    }

    private void asksOfNone() {
        RecordRights nobody = Checks.with(0, 1, "s");
        checks.noSuch("no persons", () -> nobody.asks(0, 0, 0, 0, 0));
        RecordRights nothing = Checks.with(1, 0, "s");
        checks.noSuch("no records", () -> nothing.asks(0, 0, 0, 0, 0));
        RecordRights rights = Checks.with(12, 16, "s");
        for (int person : Checks.outside(0, 11)) {
            checks.noSuch("person " + person, () -> rights.asks(person, 0, 0, 0, 0));
        }
        for (int record : Checks.outside(0, 15)) {
            checks.noSuch("record " + record, () -> rights.asks(0, record, 0, 0, 0));
        }
        for (int field : Checks.outside(0, 5)) {
            checks.noSuch("field " + field, () -> rights.asks(0, 0, field, 0, 0));
        }
        for (int purpose : Checks.outside(0, 3)) {
            checks.noSuch("purpose " + purpose, () -> rights.asks(0, 0, 0, purpose, 0));
        }
        checks.equal("no look is kept", rights.count(5), 0);
        checks.equal("the last of each", rights.asks(11, 15, 5, 3, 0), SHOWN);
    }

    private void asksOnWrongDay() {
        RecordRights rights = Checks.with(1, 1, "s");
        for (int day : Checks.outside(0, LAST_DAY)) {
            checks.badArgument("day " + day, () -> rights.asks(0, 0, 0, 0, day));
        }
        checks.equal("no look is kept", rights.count(5), 0);
        checks.equal("day 0", rights.asks(0, 0, 0, 0, 0), SHOWN);
        checks.equal("the last day", rights.asks(0, 0, 0, 0, LAST_DAY), SHOWN);
    }

    private void partsOfLooks() {
        RecordRights rights = Checks.with(12, 16, "s", "m p1");
        int[][] due = {
            {0, 0, 0, 0, 0, SHOWN}, {11, 15, 5, 3, LAST_DAY, SHOWN}, {1, 2, 3, 1, 4, MASKED}, {11, 0, 5, 1, 7, MASKED},
        };
        for (int[] look : due) {
            rights.asks(look[0], look[1], look[2], look[3], look[4]);
        }
        rights.drop(0);
        rights.drop(1);
        rights.embargo(15, LAST_DAY);
        for (int k = 0; k < due.length; k++) {
            for (int what = 0; what < 6; what++) {
                checks.equal("look(" + k + ", " + what + ")", rights.look(k, what), due[k][what]);
            }
        }
    }

    private void noLook() {
        RecordRights rights = Checks.with(1, 1, "s");
        checks.noSuch("none yet", () -> rights.look(0, 0));
        for (int k = 0; k < 100; k++) {
            int next = k + 1;
            rights.asks(0, 0, 0, 0, k);
            checks.equal("the latest of " + next, rights.look(k, 4), k);
            checks.noSuch("one behind it", () -> rights.look(next, 4));
        }
        for (int k : Checks.outside(0, 99)) {
            checks.noSuch("look " + k, () -> rights.look(k, 4));
        }
    }

    private void noPart() {
        RecordRights rights = Checks.with(1, 1, "s");
        for (int k = 0; k < 3; k++) {
            rights.asks(0, 0, 0, 0, k);
        }
        for (int what : Checks.outside(0, 5)) {
            for (int k = 0; k < 3; k++) {
                int at = k;
                checks.noSuch("look(" + k + ", " + what + ")", () -> rights.look(at, what));
            }
        }
        checks.noSuch("neither look nor part", () -> rights.look(3, 6));
        checks.noSuch("a part that lies in the next look", () -> rights.look(-1, 6));
    }

    private void kthPerson() {
        RecordRights rights = Checks.with(12, 16, "s");
        for (int person = 11; person >= 0; person--) {
            rights.asks(person, 15, 0, 0, 0);
            rights.asks(person, 15, 1, 0, 0);
        }
        rights.asks(7, 3, 0, 0, 0);
        rights.asks(2, 3, 0, 0, 0);
        for (int k = 0; k < 12; k++) {
            checks.equal("of all, place " + k, rights.looked(15, k), k);
        }
        checks.equal("the lower number", rights.looked(3, 0), 2);
        checks.equal("the higher one", rights.looked(3, 1), 7);
        RecordRights full = Checks.with(2, 2, "s");
        for (int k = 0; k < 100; k++) {
            full.asks(0, 0, 0, 0, 0);
        }
        full.asks(1, 0, 0, 0, 0);
        full.asks(0, 1, 0, 0, 0);
        checks.equal("a look that is kept", full.looked(0, 0), 0);
        checks.equal("another person's that is not", full.looked(0, 1), NONE);
        checks.equal("one at another record that is not", full.looked(1, 0), NONE);
    }

    private void lookedByNone() {
        RecordRights rights = Checks.with(12, 2, "s k1", "m f0");
        checks.equal("none yet", rights.looked(0, 0), NONE);
        rights.asks(5, 0, 1, 0, 0);
        checks.equal("an absent field", rights.looked(0, 0), NONE);
        rights.asks(5, 0, 0, 0, 0);
        checks.equal("one", rights.looked(0, 0), 5);
        checks.equal("behind one", rights.looked(0, 1), NONE);
        checks.equal("another record", rights.looked(1, 0), NONE);
        for (int person = 0; person < 12; person++) {
            rights.asks(person, 0, 0, 0, 0);
        }
        checks.equal("the last of twelve", rights.looked(0, 11), 11);
        checks.equal("behind twelve", rights.looked(0, 12), NONE);
        checks.equal("by 32 behind", rights.looked(0, 32), NONE);
        checks.equal("far behind", rights.looked(0, Integer.MAX_VALUE), NONE);
    }

    private void lookedAtNoRecord() {
        RecordRights none = Checks.with(1, 0);
        checks.noSuch("no records", () -> none.looked(0, 0));
        RecordRights rights = Checks.with(1, 16);
        for (int record : Checks.outside(0, 15)) {
            checks.noSuch("record " + record, () -> rights.looked(record, 0));
        }
        checks.equal("the last one", rights.looked(15, 0), NONE);
    }

    private void lookedBelow() {
        RecordRights rights = Checks.with(1, 1, "s");
        checks.noSuch("k is -1, no looks", () -> rights.looked(0, -1));
        rights.asks(0, 0, 0, 0, 0);
        checks.noSuch("k is -1", () -> rights.looked(0, -1));
        checks.noSuch("k is the lowest", () -> rights.looked(0, Integer.MIN_VALUE));
        checks.equal("k is 0", rights.looked(0, 0), 0);
    }

    private void howManyRecords() {
        RecordRights rights = Checks.with(1, 0, "s c1");
        checks.equal("no records", rights.export(0, 0), 0);
        for (int k = 0; k < 16; k++) {
            rights.record(0, k % 2);
            checks.equal("of " + (k + 1) + " each second one", rights.export(0, 0), (k + 1) / 2);
        }
        Checks.rule(rights, "m");
        checks.equal("all", rights.export(0, 0), 16);
        Checks.rule(rights, "a f5 p3");
        checks.equal("none", rights.export(0, 0), 0);
        checks.equal("no look is kept", rights.count(5), 0);
    }

    private void exportForNone() {
        RecordRights nobody = Checks.with(0, 1, "s");
        checks.noSuch("no persons", () -> nobody.export(0, 0));
        RecordRights rights = Checks.with(12, 1, "s");
        for (int person : Checks.outside(0, 11)) {
            checks.noSuch("person " + person, () -> rights.export(person, 0));
        }
        checks.noSuch("nothing is exported", () -> rights.exported(0));
        checks.equal("the last person", rights.export(11, 0), 1);
    }

    private void exportOnWrongDay() {
        RecordRights rights = Checks.with(1, 1, "s");
        for (int day : Checks.outside(0, LAST_DAY)) {
            checks.badArgument("day " + day, () -> rights.export(0, day));
        }
        checks.noSuch("nothing is exported", () -> rights.exported(0));
        checks.equal("day 0", rights.export(0, 0), 1);
        checks.equal("the last day", rights.export(0, LAST_DAY), 1);
    }

    private void kthRecord() {
        RecordRights rights = Checks.with(1, 16, "s");
        for (int k = 0; k < 16; k += 3) {
            rights.embargo(k, 5);
        }
        checks.equal("all but six", rights.export(0, 5), 10);
        for (int k = 0; k < 10; k++) {
            checks.equal("exported(" + k + ")", rights.exported(k), k / 2 * 3 + 1 + k % 2);
        }
        checks.equal("all", rights.export(0, 6), 16);
        for (int k = 0; k < 16; k++) {
            checks.equal("exported(" + k + ") of all", rights.exported(k), k);
        }
    }

    private void latestExport() {
        RecordRights rights = Checks.with(2, 3, "s g");
        rights.agreement(0, 0, 5, 5);
        rights.agreement(0, 1, 5, 6);
        rights.agreement(1, 2, 5, 5);
        checks.equal("two for one", rights.export(0, 5), 2);
        checks.equal("the first", rights.exported(0), 0);
        checks.equal("one for the other", rights.export(1, 5), 1);
        checks.equal("is the latest", rights.exported(0), 2);
        checks.noSuch("of one record", () -> rights.exported(1));
        checks.equal("one on another day", rights.export(0, 6), 1);
        checks.equal("is the latest then", rights.exported(0), 1);
        checks.equal("an empty one", rights.export(1, 6), 0);
        checks.noSuch("is the latest at last", () -> rights.exported(0));
    }

    private void asItWas() {
        RecordRights rights = Checks.with(1, 2, "s");
        checks.equal("both", rights.export(0, 5), 2);
        rights.drop(0);
        checks.equal("where no rule is told", rights.exported(0), 0);
        rights.embargo(0, LAST_DAY);
        rights.record(0, NONE);
        Checks.rule(rights, "a");
        rights.asks(0, 0, 0, 3, 5);
        checks.equal("the first is there yet", rights.exported(0), 0);
        checks.equal("the second is there yet", rights.exported(1), 1);
        checks.noSuch("the new one is not", () -> rights.exported(2));
        checks.noSuch("an export for none", () -> rights.export(1, 5));
        checks.badArgument("an export on a wrong day", () -> rights.export(0, -1));
        checks.equal("it is the latest yet", rights.exported(1), 1);
    }

    private void noneExported() {
        RecordRights rights = Checks.with(1, 16, "s");
        checks.noSuch("no export yet", () -> rights.exported(0));
        rights.export(0, 0);
        for (int k : Checks.outside(0, 15)) {
            checks.noSuch("place " + k + " of sixteen", () -> rights.exported(k));
        }
        checks.equal("the last place", rights.exported(15), 15);
        rights.embargo(3, 0);
        rights.export(0, 0);
        checks.noSuch("place 15 of fifteen", () -> rights.exported(15));
        rights.drop(0);
        rights.export(0, 0);
        checks.noSuch("place 0 of none", () -> rights.exported(0));
    }
}
