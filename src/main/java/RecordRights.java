import java.util.NoSuchElementException;

/** Rights to look at records: see README.md. */
public final class RecordRights {
    public static final int NONE = -1;
    public static final int ABSENT = 0;
    public static final int MASKED = 1;
    public static final int SHOWN = 2;

    private static final int LAST_DAY = 100000;
    private static final int ROLES = 8;
    private static final int KINDS = 4;
    private static final int FIELDS = 6;
    private static final int PURPOSES = 4;
    private static final int COMMUNITIES = 8;

    private static final int MOST_SIGNS = 40;
    private static final int MOST_RULES = 20;
    private static final int MOST_PERSONS = 12;
    private static final int MOST_RECORDS = 16;
    private static final int MOST_AGREEMENTS = 40;
    private static final int MOST_LOOKS = 100;
    private static final int MOST_REQUESTS = 60;

    private static final int FIRST_LIMIT = 3;
    private static final int HIGHEST_LIMIT = 60;
    private static final int REQUEST_DAYS = 30;
    private static final int LOOK_PARTS = 6;
    private static final int EMBARGO_ROLE = 1 << 7;
    private static final int EXPORT_PURPOSE = 3;
    private static final long MASK_STEP = 1000;

    // Whatever a condition can ask is a fact with a bit of its own, so that a rule is
    // two sets of bits (facts it needs, facts it bars), and suits by two comparisons.
    private static final int FIRST_ROLE_FACT = 0;
    private static final int FIRST_KIND_FACT = FIRST_ROLE_FACT + ROLES;
    private static final int FIRST_FIELD_FACT = FIRST_KIND_FACT + KINDS;
    private static final int FIRST_PURPOSE_FACT = FIRST_FIELD_FACT + FIELDS;
    private static final int FIRST_COMMUNITY_FACT = FIRST_PURPOSE_FACT + PURPOSES;
    private static final int AGREEMENT_FACT = FIRST_COMMUNITY_FACT + COMMUNITIES;

    // The facts of a field and a purpose, apart from those of a person and a record:
    // idle joins the two halves instead of trying every rule at every point.
    private static final int FIELD_SCOPE = ((1 << (FIELDS + PURPOSES)) - 1) << FIRST_FIELD_FACT;
    private static final int PAIR_SCOPE = ~FIELD_SCOPE;

    private final Pad pad;
    private final RuleReader reader;
    private final RuleBook rules;
    private final People people;
    private final Holdings holdings;
    private final Agreements agreements;
    private final Looks looks;
    private final Requests requests;
    private final Export latest;
    private final int[] fieldRules;

    public RecordRights() {
        pad = new Pad();
        reader = new RuleReader();
        rules = new RuleBook();
        people = new People();
        holdings = new Holdings();
        agreements = new Agreements();
        looks = new Looks();
        requests = new Requests();
        latest = new Export();
        fieldRules = new int[FIELDS * PURPOSES];
    }

    public int unit(int a, int b, int c, int d) throws IllegalStateException {
        int more = Pad.signsIn(a) + Pad.signsIn(b) + Pad.signsIn(c) + Pad.signsIn(d);
        if (pad.length + more > MOST_SIGNS) {
            throw new IllegalStateException("the pad would hold more than 40 signs");
        }
        pad.append(a);
        pad.append(b);
        pad.append(c);
        pad.append(d);
        return pad.length;
    }

    public int rule() throws IllegalStateException {
        if (rules.size >= MOST_RULES) {
            throw new IllegalStateException("there are twenty rules");
        }
        boolean whole = reader.reads(pad);
        pad.length = 0;
        if (!whole) {
            return NONE - reader.place;
        }
        return rules.tell(reader.answer, reader.needs, reader.bars);
    }

    public boolean drop(int rule) throws NoSuchElementException {
        if (rule < 0 || rule >= rules.size) {
            throw new NoSuchElementException("no such rule");
        }
        return rules.untell(rule);
    }

    public int person(int roles) throws IllegalArgumentException, IllegalStateException {
        if (roles < 0 || roles >= 1 << ROLES) {
            throw new IllegalArgumentException("roles are a set of 0 .. 7");
        }
        if (people.size >= MOST_PERSONS) {
            throw new IllegalStateException("there are twelve persons");
        }
        return people.add(roles);
    }

    public int record(int kind, int community) throws IllegalArgumentException, IllegalStateException {
        if (kind < 0 || kind >= KINDS) {
            throw new IllegalArgumentException("a kind is 0 .. 3");
        }
        if (community < NONE || community >= COMMUNITIES) {
            throw new IllegalArgumentException("a community is 0 .. 7, or NONE");
        }
        if (holdings.size >= MOST_RECORDS) {
            throw new IllegalStateException("there are sixteen records");
        }
        int ofCommunity = community == NONE ? 0 : 1 << (FIRST_COMMUNITY_FACT + community);
        return holdings.add(1 << (FIRST_KIND_FACT + kind) | ofCommunity);
    }

    public long value(int record, int field, long v) throws NoSuchElementException {
        requireRecord(record);
        requireField(field);
        return holdings.put(record, field, v);
    }

    public int embargo(int record, int until) throws NoSuchElementException, IllegalArgumentException {
        requireRecord(record);
        if (until != NONE) {
            requireDay(until);
        }
        int before = holdings.embargoes[record];
        holdings.embargoes[record] = until;
        return before;
    }

    public int agreement(int person, int record, int from, int to)
            throws NoSuchElementException, IllegalArgumentException, IllegalStateException {
        requirePerson(person);
        requireRecord(record);
        requireDay(from);
        requireDay(to);
        if (from > to) {
            throw new IllegalArgumentException("an agreement ends before it begins");
        }
        if (agreements.size >= MOST_AGREEMENTS) {
            throw new IllegalStateException("there are 40 agreements");
        }
        agreements.add(person, record, from, to);
        return agreements.size;
    }

    public int asks(int person, int record, int field, int purpose, int day)
            throws NoSuchElementException, IllegalArgumentException {
        requirePerson(person);
        requireRecord(record);
        requireField(field);
        if (purpose < 0 || purpose >= PURPOSES) {
            throw new NoSuchElementException("no such purpose");
        }
        requireDay(day);
        int got = rules.answerOf(openRules(person, record, day) & rulesForField(field, purpose));
        if (got != ABSENT && looks.size < MOST_LOOKS) {
            looks.keep(person, record, field, purpose, day, got);
        }
        return got;
    }

    public long masked(int record, int field) throws NoSuchElementException {
        requireRecord(record);
        requireField(field);
        // The remainder bears the value's sign, so this holds for the lowest long too,
        // which has no counterpart without its sign.
        long v = holdings.at(record, field);
        return v - v % MASK_STEP;
    }

    public int look(int k, int what) throws NoSuchElementException {
        if (k < 0 || k >= looks.size) {
            throw new NoSuchElementException("no such look");
        }
        if (what < 0 || what >= LOOK_PARTS) {
            throw new NoSuchElementException("a look has no such part");
        }
        return looks.part(k, what);
    }

    public int looked(int record, int k) throws NoSuchElementException {
        requireRecord(record);
        if (k < 0) {
            throw new NoSuchElementException("no such place");
        }
        return looks.looker(record, k);
    }

    public int export(int person, int day) throws NoSuchElementException, IllegalArgumentException {
        requirePerson(person);
        requireDay(day);
        latest.size = 0;
        for (int record = 0; record < holdings.size; record++) {
            if (isExportable(openRules(person, record, day))) {
                latest.add(record);
            }
        }
        return latest.size;
    }

    public int exported(int k) throws NoSuchElementException {
        if (k < 0 || k >= latest.size) {
            throw new NoSuchElementException("no such place in the latest export");
        }
        return latest.records[k];
    }

    public int request(int person, int record, int day)
            throws NoSuchElementException, IllegalArgumentException, IllegalStateException {
        requirePerson(person);
        requireRecord(record);
        requireDay(day);
        if (requests.size >= MOST_REQUESTS) {
            throw new IllegalStateException("60 requests are kept");
        }
        int withIt = requests.within(person, day) + 1;
        if (withIt > people.limits[person]) {
            return NONE;
        }
        requests.keep(person, day);
        return withIt;
    }

    public int limit(int person, int most) throws NoSuchElementException, IllegalArgumentException {
        requirePerson(person);
        if (most < 0 || most > HIGHEST_LIMIT) {
            throw new IllegalArgumentException("a limit is 0 .. 60");
        }
        int before = people.limits[person];
        people.limits[person] = most;
        return before;
    }

    public int idle(int day) throws IllegalArgumentException {
        requireDay(day);
        fillFieldRules();
        int spare = rules.told;
        for (int person = 0; person < people.size; person++) {
            for (int record = 0; record < holdings.size && spare != 0; record++) {
                spare &= ~neededRules(openRules(person, record, day));
            }
        }
        return rules.firstOf(spare);
    }

    public int count(int what) throws IllegalArgumentException {
        switch (what) {
            case 0:
                return pad.length;
            case 1:
                return rules.size;
            case 2:
                return Integer.bitCount(rules.told);
            case 3:
                return people.size;
            case 4:
                return holdings.size;
            case 5:
                return looks.size;
            case 6:
                return requests.size;
            default:
                throw new IllegalArgumentException("nothing is counted by this number");
        }
    }

    private void requirePerson(int person) {
        if (person < 0 || person >= people.size) {
            throw new NoSuchElementException("no such person");
        }
    }

    private void requireRecord(int record) {
        if (record < 0 || record >= holdings.size) {
            throw new NoSuchElementException("no such record");
        }
    }

    private static void requireField(int field) {
        if (field < 0 || field >= FIELDS) {
            throw new NoSuchElementException("no such field");
        }
    }

    private static void requireDay(int day) {
        if (day < 0 || day > LAST_DAY) {
            throw new IllegalArgumentException("a day is 0 .. 100000");
        }
    }

    /** An embargo leaves no rule open: where no rule suits, a field is absent. */
    private int openRules(int person, int record, int day) {
        int roles = people.roles[person];
        if (day <= holdings.embargoes[record] && (roles & EMBARGO_ROLE) == 0) {
            return 0;
        }
        int agreed = agreements.hold(person, record, day) ? 1 << AGREEMENT_FACT : 0;
        return rules.suiting(roles << FIRST_ROLE_FACT | holdings.facts[record] | agreed, PAIR_SCOPE);
    }

    private int rulesForField(int field, int purpose) {
        int facts = 1 << (FIRST_FIELD_FACT + field) | 1 << (FIRST_PURPOSE_FACT + purpose);
        return rules.suiting(facts, FIELD_SCOPE);
    }

    private boolean isExportable(int open) {
        for (int field = 0; field < FIELDS; field++) {
            if (rules.answerOf(open & rulesForField(field, EXPORT_PURPOSE)) == ABSENT) {
                return false;
            }
        }
        return true;
    }

    private void fillFieldRules() {
        for (int field = 0; field < FIELDS; field++) {
            for (int purpose = 0; purpose < PURPOSES; purpose++) {
                fieldRules[field * PURPOSES + purpose] = rulesForField(field, purpose);
            }
        }
    }

    private int neededRules(int open) {
        int needed = 0;
        for (int k = 0; k < FIELDS * PURPOSES; k++) {
            needed |= rules.neededOf(open & fieldRules[k]);
        }
        return needed;
    }

    private static final class Pad {
        final char[] signs = new char[MOST_SIGNS];
        int length;

        static int signsIn(int word) {
            int many = 0;
            for (int shift = 0; shift < 32; shift += 8) {
                if ((word >>> shift & 255) != 0) {
                    many++;
                }
            }
            return many;
        }

        void append(int word) {
            for (int shift = 0; shift < 32; shift += 8) {
                int sign = word >>> shift & 255;
                if (sign != 0 && length < MOST_SIGNS) {
                    signs[length] = (char) sign;
                    length++;
                }
            }
        }
    }

    /** Takes a text sign by sign, so that the place where it stops is the one rule() tells. */
    private static final class RuleReader {
        private static final int AT_ANSWER = 0;
        private static final int AT_GAP = 1;
        private static final int AT_CONDITION = 2;
        private static final int AT_LETTER = 3;
        private static final int AT_DIGIT = 4;

        int place;
        int answer;
        int needs;
        int bars;
        private int state;
        private boolean turned;
        private int firstFact;
        private int digits;

        boolean reads(Pad pad) {
            needs = 0;
            bars = 0;
            state = AT_ANSWER;
            for (int at = 0; at < pad.length; at++) {
                if (!takes(pad.signs[at])) {
                    place = at;
                    return false;
                }
            }
            place = pad.length;
            return state == AT_GAP;
        }

        private boolean takes(int sign) {
            switch (state) {
                case AT_ANSWER:
                    return takesAnswer(sign);
                case AT_GAP:
                    turned = false;
                    state = AT_CONDITION;
                    return sign == ' ';
                case AT_CONDITION:
                    if (sign == '!') {
                        turned = true;
                        state = AT_LETTER;
                        return true;
                    }
                    return takesLetter(sign);
                case AT_LETTER:
                    return takesLetter(sign);
                default:
                    return takesDigit(sign);
            }
        }

        private boolean takesAnswer(int sign) {
            state = AT_GAP;
            switch (sign) {
                case 's':
                    answer = SHOWN;
                    return true;
                case 'm':
                    answer = MASKED;
                    return true;
                case 'a':
                    answer = ABSENT;
                    return true;
                default:
                    return false;
            }
        }

        private boolean takesLetter(int sign) {
            switch (sign) {
                case 'r':
                    return awaitsDigit(FIRST_ROLE_FACT, ROLES);
                case 'k':
                    return awaitsDigit(FIRST_KIND_FACT, KINDS);
                case 'f':
                    return awaitsDigit(FIRST_FIELD_FACT, FIELDS);
                case 'p':
                    return awaitsDigit(FIRST_PURPOSE_FACT, PURPOSES);
                case 'c':
                    return awaitsDigit(FIRST_COMMUNITY_FACT, COMMUNITIES);
                case 'g':
                    addCondition(AGREEMENT_FACT);
                    return true;
                default:
                    return false;
            }
        }

        private boolean awaitsDigit(int first, int many) {
            firstFact = first;
            digits = many;
            state = AT_DIGIT;
            return true;
        }

        private boolean takesDigit(int sign) {
            if (sign < '0' || sign >= '0' + digits) {
                return false;
            }
            addCondition(firstFact + (sign - '0'));
            return true;
        }

        private void addCondition(int fact) {
            if (turned) {
                bars |= 1 << fact;
            } else {
                needs |= 1 << fact;
            }
            state = AT_GAP;
        }
    }

    /** Sets of rules are ints too: the bit of a later rule is the higher one. */
    private static final class RuleBook {
        final int[] needs = new int[MOST_RULES];
        final int[] bars = new int[MOST_RULES];
        int size;
        int told;
        private int absent;
        private int masking;
        private int showing;

        int tell(int answer, int need, int bar) {
            int bit = 1 << size;
            needs[size] = need;
            bars[size] = bar;
            if (answer == ABSENT) {
                absent |= bit;
            } else if (answer == MASKED) {
                masking |= bit;
            } else {
                showing |= bit;
            }
            told |= bit;
            size++;
            return size - 1;
        }

        boolean untell(int number) {
            int bit = 1 << number;
            boolean was = (told & bit) != 0;
            told &= ~bit;
            return was;
        }

        /** The told rules whose conditions about the facts of a scope all hold. */
        int suiting(int facts, int scope) {
            int suit = 0;
            int missing = scope & ~facts;
            for (int number = 0; number < size; number++) {
                if ((needs[number] & missing) == 0 && (bars[number] & facts) == 0) {
                    suit |= 1 << number;
                }
            }
            return suit & told;
        }

        int answerOf(int suit) {
            if (suit == 0 || (suit & absent) != 0) {
                return ABSENT;
            }
            // The last rule's bit is the highest, so the larger of the two sets has it.
            return (suit & showing) > (suit & masking) ? SHOWN : MASKED;
        }

        /** Only one rule can decide alone: the sole rule of ABSENT, or else the last one. */
        int neededOf(int suit) {
            int absents = suit & absent;
            if (Integer.bitCount(absents) > 1) {
                return 0;
            }
            int deciding = absents != 0 ? absents : lastOf(suit);
            return answerOf(suit & ~deciding) == answerOf(suit) ? 0 : deciding;
        }

        private int lastOf(int suit) {
            for (int number = size - 1; number >= 0; number--) {
                if ((suit & 1 << number) != 0) {
                    return 1 << number;
                }
            }
            return 0;
        }

        int firstOf(int set) {
            for (int number = 0; number < size; number++) {
                if ((set & 1 << number) != 0) {
                    return number;
                }
            }
            return NONE;
        }
    }

    private static final class People {
        final int[] roles = new int[MOST_PERSONS];
        final int[] limits = new int[MOST_PERSONS];
        int size;

        int add(int set) {
            roles[size] = set;
            limits[size] = FIRST_LIMIT;
            size++;
            return size - 1;
        }
    }

    private static final class Holdings {
        final int[] facts = new int[MOST_RECORDS];
        final int[] embargoes = new int[MOST_RECORDS];
        private final long[] values = new long[MOST_RECORDS * FIELDS];
        int size;

        int add(int fact) {
            facts[size] = fact;
            embargoes[size] = NONE;
            size++;
            return size - 1;
        }

        long at(int number, int field) {
            return values[number * FIELDS + field];
        }

        long put(int number, int field, long v) {
            long before = at(number, field);
            values[number * FIELDS + field] = v;
            return before;
        }
    }

    private static final class Agreements {
        private final int[] persons = new int[MOST_AGREEMENTS];
        private final int[] records = new int[MOST_AGREEMENTS];
        private final int[] froms = new int[MOST_AGREEMENTS];
        private final int[] tos = new int[MOST_AGREEMENTS];
        int size;

        void add(int who, int which, int from, int to) {
            persons[size] = who;
            records[size] = which;
            froms[size] = from;
            tos[size] = to;
            size++;
        }

        boolean hold(int who, int which, int day) {
            for (int k = 0; k < size; k++) {
                if (persons[k] == who && records[k] == which && froms[k] <= day && day <= tos[k]) {
                    return true;
                }
            }
            return false;
        }
    }

    private static final class Looks {
        private final int[] parts = new int[MOST_LOOKS * LOOK_PARTS];
        private final int[] lookers = new int[MOST_RECORDS];
        int size;

        void keep(int who, int which, int field, int purpose, int day, int got) {
            int at = size * LOOK_PARTS;
            parts[at] = who;
            parts[at + 1] = which;
            parts[at + 2] = field;
            parts[at + 3] = purpose;
            parts[at + 4] = day;
            parts[at + 5] = got;
            lookers[which] |= 1 << who;
            size++;
        }

        int part(int k, int what) {
            return parts[k * LOOK_PARTS + what];
        }

        int looker(int which, int k) {
            int before = 0;
            for (int who = 0; who < MOST_PERSONS; who++) {
                if ((lookers[which] & 1 << who) != 0) {
                    if (before == k) {
                        return who;
                    }
                    before++;
                }
            }
            return NONE;
        }
    }

    /** A limit is a person's whatever the record, so the record of a request is not kept. */
    private static final class Requests {
        private final int[] persons = new int[MOST_REQUESTS];
        private final int[] days = new int[MOST_REQUESTS];
        int size;

        int within(int who, int lastDay) {
            int many = 0;
            for (int k = 0; k < size; k++) {
                if (persons[k] == who && days[k] <= lastDay && days[k] > lastDay - REQUEST_DAYS) {
                    many++;
                }
            }
            return many;
        }

        void keep(int who, int day) {
            persons[size] = who;
            days[size] = day;
            size++;
        }
    }

    private static final class Export {
        final int[] records = new int[MOST_RECORDS];
        int size;

        void add(int which) {
            records[size] = which;
            size++;
        }
    }
}
