/** Rules, and promises 1 to 4: each sentence that names an edge has a test of its own. */
final class RuleEdgesTest {
    private static final int NONE = RecordRights.NONE;
    private static final int ABSENT = RecordRights.ABSENT;
    private static final int MASKED = RecordRights.MASKED;
    private static final int SHOWN = RecordRights.SHOWN;
    private static final int LAST_SIGN = 255;
    private static final String FORTY = "m f0 k0 !r0 !r1 !r2 !r3 p0 !c0 !c1 !c2 g";

    private final Checks checks = new Checks();

    public static void main(String[] args) {
        RuleEdgesTest test = new RuleEdgesTest();
        test.texts();
        test.padAndRules();
        test.checks.end();
    }

    private void texts() {
        checks.sentence("RULES, at most 20", this::atMostTwenty);
        checks.sentence("texts of at most 40 signs", this::atMostFortySigns);
        checks.sentence("an ANSWER: 115 (SHOWN), 109 (MASKED) or 97 (ABSENT)", this::answers);
        checks.sentence("then CONDITIONS, none or more", this::noneOrMore);
        checks.sentence("each ahead of it a 32", this::aheadOfEach);
        checks.sentence("a letter and a digit", this::letters);
        checks.sentence("114 and a role (the person has it)", () -> digits('r', 8));
        checks.sentence("107 and a kind (the record is of it)", () -> digits('k', 4));
        checks.sentence("102 and a field (it is the one)", () -> digits('f', 6));
        checks.sentence("112 and a purpose", () -> digits('p', 4));
        checks.sentence("99 and a community", () -> digits('c', 8));
        checks.sentence("a COMMUNITY 0 .. 7 or none", this::ofNoCommunity);
        checks.sentence("103: the person has an AGREEMENT for the record on that day", this::agreementSign);
        checks.sentence("33 ahead of any of these turns it round", this::turnedRound);
        checks.sentence("(one 33 at most)", this::oneTurnAtMost);
    }

    private void padAndRules() {
        checks.sentence("No persons, records, rules; an empty pad.", this::newObject);
        checks.sentence("Signs come behind the pad: of a, then of b, and so on", this::wordsInOrder);
        checks.sentence("the lowest eight bits first", this::lowestFirst);
        checks.sentence("0 is none", this::zeroIsNone);
        checks.sentence("how many there are", this::howManySigns);
        checks.sentence("IllegalStateException: there would be more than 40.", this::moreThanForty);
        checks.sentence("The pad becomes a rule, the last told", this::becomesTheLast);
        checks.sentence("and is empty: its number", this::emptyBehindRule);
        checks.sentence("NONE - the place of the sign at which it is no beginning of a rule", this::places);
        checks.sentence("(its length at its end)", this::lengthAtEnd);
        checks.sentence("and it is empty, too", this::emptyBehindNone);
        checks.sentence("IllegalStateException: there are twenty.", this::thereAreTwenty);
        checks.sentence("A rule is told no more (its number stays)", this::numberStays);
        checks.sentence("drop: whether it was.", this::whetherItWas);
        checks.sentence("drop: NoSuchElementException.", this::dropsNone);
    }

    private static int ruleOf(String text) {
        return Checks.rule(new RecordRights(), text);
    }

    private static int asked(String... texts) {
        return Checks.with(1, 1, texts).asks(0, 0, 0, 0, 0);
    }

    private void atMostTwenty() {
        RecordRights rights = Checks.with(1, 1);
        for (int k = 0; k < 20; k++) {
            checks.equal("rule " + k, Checks.rule(rights, "m"), k);
        }
        Checks.write(rights, "s");
        checks.badState("rule 20", () -> rights.rule());
        checks.equal("rules", rights.count(1), 20);
        checks.equal("the twenty say", rights.asks(0, 0, 0, 0, 0), MASKED);
    }

    private void atMostFortySigns() {
        checks.equal("FORTY is as long", FORTY.length(), 40);
        RecordRights rights = Checks.with(1, 1);
        rights.agreement(0, 0, 5, 5);
        checks.equal("40 signs", Checks.rule(rights, FORTY), 0);
        checks.equal("suit with the last one", rights.asks(0, 0, 0, 0, 5), MASKED);
        checks.equal("and not without", rights.asks(0, 0, 0, 0, 6), ABSENT);
        checks.equal("38 signs", Checks.rule(rights, FORTY.substring(0, 38)), 1);
        checks.badState("41 signs", () -> Checks.write(rights, FORTY + "g"));
    }

    private void answers() {
        for (int sign = 1; sign <= LAST_SIGN; sign++) {
            boolean is = sign == 115 || sign == 109 || sign == 97;
            RecordRights rights = new RecordRights();
            rights.unit(sign, 0, 0, 0);
            checks.equal("sign " + sign, rights.rule(), is ? 0 : NONE);
        }
        checks.equal("115", asked("s"), SHOWN);
        checks.equal("109", asked("m"), MASKED);
        checks.equal("97", asked("s", "a"), ABSENT);
    }

    private void noneOrMore() {
        StringBuilder text = new StringBuilder("s");
        for (int k = 0; k <= 13; k++) {
            checks.equal(k + " conditions", ruleOf(text.toString()), 0);
            checks.equal(k + " conditions that hold", asked(text.toString()), SHOWN);
            checks.equal(k + " and one that does not", k == 13 ? ABSENT : asked(text + " r0"), ABSENT);
            text.append(" f0");
        }
        checks.equal("19 of the shortest", ruleOf("s g g g g g g g g g g g g g g g g g g g"), 0);
    }

    private void aheadOfEach() {
        for (int sign = 1; sign <= LAST_SIGN; sign++) {
            String text = "s" + (char) sign;
            checks.equal("sign " + sign + " behind s", ruleOf(text), sign == 32 ? NONE - 2 : NONE - 1);
            checks.equal("sign " + sign + ", then g", ruleOf(text + "g"), sign == 32 ? 0 : NONE - 1);
            text = "s f0" + (char) sign + "g";
            checks.equal("sign " + sign + " behind f0", ruleOf(text), sign == 32 ? 0 : NONE - 4);
            text = "s g" + (char) sign + "f0";
            checks.equal("sign " + sign + " behind g", ruleOf(text), sign == 32 ? 0 : NONE - 3);
        }
    }

    private void letters() {
        for (int sign = 1; sign <= LAST_SIGN; sign++) {
            boolean awaits = "rkfpc".indexOf(sign) >= 0;
            int due = sign == 'g' ? 0 : awaits || sign == '!' ? NONE - 3 : NONE - 2;
            checks.equal("sign " + sign + " alone", ruleOf("s " + (char) sign), due);
            due = awaits ? 0 : sign == 'g' || sign == '!' ? NONE - 3 : NONE - 2;
            checks.equal("sign " + sign + " and 0", ruleOf("s " + (char) sign + "0"), due);
        }
    }

    private void digits(char letter, int many) {
        for (int sign = 1; sign <= LAST_SIGN; sign++) {
            boolean is = sign >= '0' && sign < '0' + many;
            String text = "" + letter + (char) sign;
            checks.equal(text, ruleOf("s " + text), is ? 0 : NONE - 3);
            checks.equal("!" + text, ruleOf("s !" + text), is ? 0 : NONE - 4);
        }
        checks.equal("two digits", ruleOf("s " + letter + "00"), NONE - 4);
        for (int digit = 0; digit < many; digit++) {
            for (int other = 0; other < many; other++) {
                checks.equal("" + letter + digit + " at " + other, askedAt("s " + letter + digit, letter, other),
                        digit == other ? SHOWN : ABSENT);
            }
        }
    }

    /** What is got where the one fact that a letter asks for is a digit. */
    private static int askedAt(String text, char letter, int digit) {
        RecordRights rights = Checks.with(0, 0, text);
        rights.person(letter == 'r' ? 1 << digit : 0);
        rights.record(letter == 'k' ? digit : 0, letter == 'c' ? digit : NONE);
        return rights.asks(0, 0, letter == 'f' ? digit : 0, letter == 'p' ? digit : 0, 0);
    }

    private void ofNoCommunity() {
        for (int community = 0; community < 8; community++) {
            checks.equal("c" + community, asked("s c" + community), ABSENT);
            checks.equal("!c" + community, asked("s !c" + community), SHOWN);
        }
    }

    private void agreementSign() {
        RecordRights rights = Checks.with(2, 2, "m", "s g");
        rights.agreement(1, 0, 5, 6);
        checks.equal("the person's, for the record, that day", rights.asks(1, 0, 0, 0, 5), SHOWN);
        checks.equal("another person's", rights.asks(0, 0, 0, 0, 5), MASKED);
        checks.equal("for another record", rights.asks(1, 1, 0, 0, 5), MASKED);
        checks.equal("ahead of it", rights.asks(1, 0, 0, 0, 4), MASKED);
        checks.equal("behind it", rights.asks(1, 0, 0, 0, 7), MASKED);
    }

    private void turnedRound() {
        String letters = "rkfpc";
        for (int k = 0; k < letters.length(); k++) {
            char letter = letters.charAt(k);
            checks.equal("!" + letter + "1 at 1", askedAt("s !" + letter + "1", letter, 1), ABSENT);
            checks.equal("!" + letter + "1 at 2", askedAt("s !" + letter + "1", letter, 2), SHOWN);
        }
        RecordRights rights = Checks.with(1, 1, "s !g");
        rights.agreement(0, 0, 5, 5);
        checks.equal("!g with one", rights.asks(0, 0, 0, 0, 5), ABSENT);
        checks.equal("!g without", rights.asks(0, 0, 0, 0, 6), SHOWN);
        checks.equal("one turned round, the next not", asked("s !f1 f0"), SHOWN);
        checks.equal("one turned round, the next neither", asked("s !f1 f2"), ABSENT);
        checks.equal("two turned round, the first does not hold", asked("s !f0 !f1"), ABSENT);
        checks.equal("two turned round, the second does not hold", asked("s !f1 !f0"), ABSENT);
        checks.equal("two turned round that hold", asked("s !f1 !f2"), SHOWN);
        checks.equal("a condition and its turn", asked("s f0 !f0"), ABSENT);
    }

    private void oneTurnAtMost() {
        String[] turned = {"r0", "k0", "f0", "p0", "c0", "g"};
        for (String condition : turned) {
            checks.equal("one", ruleOf("s !" + condition), 0);
            checks.equal("two", ruleOf("s !!" + condition), NONE - 3);
            checks.equal("one behind it", ruleOf("s " + condition + "!"), NONE - 2 - condition.length());
        }
        checks.equal("one for each", ruleOf("s !r0 !g !f0"), 0);
        checks.equal("one ahead of the space", ruleOf("s! g"), NONE - 1);
        checks.equal("one ahead of the answer", ruleOf("!s g"), NONE);
        checks.equal("one ahead of the digit", ruleOf("s r!0"), NONE - 3);
    }

    private void newObject() {
        RecordRights rights = new RecordRights();
        for (int what = 0; what < 7; what++) {
            checks.equal("count(" + what + ")", rights.count(what), 0);
        }
        checks.noSuch("no person", () -> rights.limit(0, 3));
        checks.noSuch("no record", () -> rights.masked(0, 0));
        checks.noSuch("no rule", () -> rights.drop(0));
        checks.noSuch("no look", () -> rights.look(0, 0));
        checks.noSuch("no export", () -> rights.exported(0));
        checks.equal("no idle rule", rights.idle(0), NONE);
        checks.equal("an empty pad", rights.rule(), NONE);
        checks.equal("the first person", rights.person(0), 0);
        checks.equal("the first record", rights.record(0, NONE), 0);
        checks.equal("the first agreement", rights.agreement(0, 0, 0, 0), 1);
        checks.equal("no rule says", rights.asks(0, 0, 0, 0, 0), ABSENT);
    }

    private void wordsInOrder() {
        checks.equal("one sign in each word", ruleOfWords('s', ' ', 'r', '0'), 0);
        checks.equal("a behind b", ruleOfWords(' ', 's', 'r', '0'), NONE);
        checks.equal("b behind c", ruleOfWords('s', 'r', ' ', '0'), NONE - 1);
        checks.equal("c behind d", ruleOfWords('s', ' ', '0', 'r'), NONE - 2);
        checks.equal("sixteen signs", ruleOfWords(Checks.word("s r0", 0), Checks.word(" k1 ", 0),
                Checks.word("f2 p", 0), Checks.word("3 !g", 0)), 0);
        RecordRights rights = new RecordRights();
        for (int k = 0; k < FORTY.length(); k++) {
            checks.equal("one sign a call", rights.unit(0, 0, FORTY.charAt(k), 0), k + 1);
        }
        checks.equal("they come behind one another", rights.rule(), 0);
    }

    private static int ruleOfWords(int a, int b, int c, int d) {
        RecordRights rights = new RecordRights();
        rights.unit(a, b, c, d);
        return rights.rule();
    }

    private void lowestFirst() {
        checks.equal("\"s r0\"", ruleOfWords(0x30722073, 0, 0, 0), 0);
        checks.equal("the highest first", ruleOfWords(0x73207230, 0, 0, 0), NONE);
        checks.equal("in the last word", ruleOfWords(0, 0, 0, 0x30722073), 0);
        checks.equal("the highest eight bits are the last sign", ruleOfWords(0xFF722073, 0, 0, 0), NONE - 3);
        checks.equal("sign 128 is a sign", ruleOfWords(0x80000000, 0, 0, 0), NONE);
        checks.equal("behind an answer", ruleOfWords('s', 0x80000000, 0, 0), NONE - 1);
    }

    private void zeroIsNone() {
        RecordRights rights = new RecordRights();
        checks.equal("no sign", rights.unit(0, 0, 0, 0), 0);
        checks.equal("one, the highest", rights.unit('s' << 24, 0, 0, 0), 1);
        checks.equal("two, apart", rights.unit(0x00720020, 0, 0, 0), 3);
        checks.equal("one, in the last word", rights.unit(0, 0, 0, '0' << 8), 4);
        checks.equal("they are one text", rights.rule(), 0);
    }

    private void howManySigns() {
        RecordRights rights = new RecordRights();
        checks.equal("all sixteen", rights.unit(-1, 0x01010101, 0x7F7F7F7F, 0x80808080), 16);
        checks.equal("none more", rights.unit(0, 0, 0, 0), 16);
        checks.equal("sixteen more", rights.unit(-1, -1, -1, -1), 32);
        checks.equal("eight more", rights.unit(-1, 0, -1, 0), 40);
        checks.equal("none more at 40", rights.unit(0, 0, 0, 0), 40);
    }

    private void moreThanForty() {
        for (int room = 0; room < 16; room++) {
            RecordRights rights = new RecordRights();
            Checks.write(rights, FORTY.substring(0, 40 - room));
            checks.badState("sixteen into " + room, () -> rights.unit(-1, -1, -1, -1));
            int one = room;
            checks.badState("one above " + room, () -> units(rights, one + 1));
            checks.equal("the pad", rights.count(0), 40 - room);
            checks.equal("as many as " + room, units(rights, room), 40);
            checks.badState("one above 40", () -> rights.unit(0, 0, 0, 1));
        }
        RecordRights rights = Checks.with(0, 0);
        Checks.write(rights, FORTY);
        for (int bit = 0; bit < 32; bit++) {
            int word = 1 << bit;
            checks.badState("bit " + bit + " of a", () -> rights.unit(word, 0, 0, 0));
            checks.badState("bit " + bit + " of b", () -> rights.unit(0, word, 0, 0));
            checks.badState("bit " + bit + " of c", () -> rights.unit(0, 0, word, 0));
            checks.badState("bit " + bit + " of d", () -> rights.unit(0, 0, 0, word));
        }
        checks.equal("the signs are as they were", rights.rule(), 0);
    }

    /** Puts so many signs behind the pad by one call, the last words first. */
    private static int units(RecordRights rights, int many) {
        int[] words = new int[4];
        for (int k = 0; k < many; k++) {
            words[3 - k / 4] |= 'g' << (8 * (k % 4));
        }
        return rights.unit(words[0], words[1], words[2], words[3]);
    }

    private void becomesTheLast() {
        RecordRights rights = Checks.with(1, 1, "s");
        checks.equal("s", rights.asks(0, 0, 0, 0, 0), SHOWN);
        Checks.rule(rights, "m");
        checks.equal("s, m", rights.asks(0, 0, 0, 0, 0), MASKED);
        Checks.rule(rights, "s");
        checks.equal("s, m, s", rights.asks(0, 0, 0, 0, 0), SHOWN);
        rights.drop(0);
        Checks.rule(rights, "m");
        checks.equal("m, s, m: a dropped one leaves no place", rights.asks(0, 0, 0, 0, 0), MASKED);
        checks.equal("told", rights.count(2), 3);
    }

    private void emptyBehindRule() {
        RecordRights rights = new RecordRights();
        for (int k = 0; k < 20; k++) {
            checks.equal("its number", Checks.rule(rights, "s g"), k);
            checks.equal("signs behind it", rights.count(0), 0);
            checks.equal("rules", rights.count(1), k + 1);
        }
        RecordRights other = Checks.with(0, 0, "s");
        checks.equal("nothing is left to tell again", other.rule(), NONE);
    }

    private void places() {
        for (int k = 0; k < 40; k++) {
            String text = FORTY.substring(0, k) + "x";
            checks.equal("x at place " + k, ruleOf(text), NONE - k);
            if (k < 39) {
                checks.equal("x at place " + k + ", and more", ruleOf(text + FORTY.substring(k + 1)), NONE - k);
            }
        }
        checks.equal("the first of two", ruleOf("s x x"), NONE - 2);
    }

    private void lengthAtEnd() {
        for (int k = 0; k < 40; k++) {
            String text = FORTY.substring(0, k);
            boolean whole = k > 0 && FORTY.charAt(k) == ' ';
            checks.equal("\"" + text + "\"", ruleOf(text), whole ? 0 : NONE - k);
        }
        checks.equal("40 signs that end too early", ruleOf(FORTY.substring(0, 38) + " !"), NONE - 40);
    }

    private void emptyBehindNone() {
        String[] broken = {"", "x", "s ", "sx", "s r", FORTY.substring(0, 39), FORTY.substring(0, 39) + "x"};
        for (String text : broken) {
            RecordRights rights = new RecordRights();
            checks.holds("\"" + text + "\" is none", Checks.rule(rights, text) < 0);
            checks.equal("signs behind \"" + text + "\"", rights.count(0), 0);
            checks.equal("rules", rights.count(1), 0);
            checks.equal("40 signs have room", Checks.write(rights, FORTY), 40);
            checks.equal("and are the first rule", rights.rule(), 0);
        }
    }

    private void thereAreTwenty() {
        String[] pads = {"", "s", "x", "s r"};
        for (String text : pads) {
            RecordRights rights = new RecordRights();
            for (int k = 0; k < 20; k++) {
                Checks.rule(rights, "s");
            }
            Checks.write(rights, text);
            checks.badState("a 21st of \"" + text + "\"", () -> rights.rule());
            checks.equal("the pad stays", rights.count(0), text.length());
            rights.drop(0);
            rights.drop(19);
            checks.badState("dropped ones are rules yet", () -> rights.rule());
            checks.equal("the pad stays", rights.count(0), text.length());
        }
        RecordRights rights = new RecordRights();
        for (int k = 0; k < 19; k++) {
            Checks.rule(rights, "s");
        }
        checks.equal("none comes of a broken text", Checks.rule(rights, "x"), NONE);
        checks.equal("a 20th", Checks.rule(rights, "s"), 19);
    }

    private void numberStays() {
        RecordRights rights = Checks.with(1, 1, "m f0", "s f1", "m f2");
        rights.drop(0);
        rights.drop(2);
        checks.equal("the next number", Checks.rule(rights, "s f2"), 3);
        checks.equal("rules", rights.count(1), 4);
        checks.equal("told", rights.count(2), 2);
        checks.equal("rule 0 says nothing", rights.asks(0, 0, 0, 0, 0), ABSENT);
        checks.equal("rule 1 is as it was", rights.asks(0, 0, 1, 0, 0), SHOWN);
        checks.equal("rule 3 says", rights.asks(0, 0, 2, 0, 0), SHOWN);
        rights.drop(3);
        checks.equal("rule 3 says nothing", rights.asks(0, 0, 2, 0, 0), ABSENT);
    }

    private void whetherItWas() {
        RecordRights rights = new RecordRights();
        for (int k = 0; k < 20; k++) {
            Checks.rule(rights, "s");
        }
        for (int k = 0; k < 20; k++) {
            checks.holds("drop " + k, rights.drop(k));
            checks.fails("drop " + k + " again", rights.drop(k));
            checks.equal("told", rights.count(2), 19 - k);
        }
        checks.fails("drop 0 at last", rights.drop(0));
        checks.equal("rules", rights.count(1), 20);
    }

    private void dropsNone() {
        RecordRights rights = new RecordRights();
        checks.noSuch("drop(0) of none", () -> rights.drop(0));
        Checks.write(rights, "s");
        checks.noSuch("drop(0) ahead of rule()", () -> rights.drop(0));
        rights.rule();
        for (int k = 1; k < 20; k++) {
            int next = k;
            checks.noSuch("drop(" + k + ") of " + k, () -> rights.drop(next));
            Checks.rule(rights, "s");
        }
        for (int k : Checks.outside(0, 19)) {
            checks.noSuch("drop(" + k + ") of twenty", () -> rights.drop(k));
        }
        checks.equal("told", rights.count(2), 20);
    }
}
