import java.util.ArrayList;
import java.util.List;
import java.util.NoSuchElementException;
import java.util.TreeSet;
import java.util.regex.Matcher;
import java.util.regex.Pattern;

/** The document told a second time, with the library and without thrift, to compare long runs with. */
final class Model {
    private static final Pattern RULE =
            Pattern.compile("[sma](?: !?(?:r[0-7]|k[0-3]|f[0-5]|p[0-3]|c[0-7]|g))*");

    private String pad = "";
    private final List<String> rules = new ArrayList<>();
    private final List<Boolean> told = new ArrayList<>();
    private final List<Integer> roles = new ArrayList<>();
    private final List<Integer> limits = new ArrayList<>();
    private final List<int[]> records = new ArrayList<>();
    private final List<long[]> values = new ArrayList<>();
    private final List<Integer> embargoes = new ArrayList<>();
    private final List<int[]> agreements = new ArrayList<>();
    private final List<int[]> looks = new ArrayList<>();
    private final List<int[]> requests = new ArrayList<>();
    private List<Integer> export = new ArrayList<>();

    long call(String name, long[] x) {
        switch (name) {
            case "unit": return unit(x);
            case "rule": return rule();
            case "drop": return drop((int) x[0]);
            case "person": return person((int) x[0]);
            case "record": return record((int) x[0], (int) x[1]);
            case "value": return value((int) x[0], (int) x[1], x[2]);
            case "embargo": return embargo((int) x[0], (int) x[1]);
            case "agreement": return agreement((int) x[0], (int) x[1], (int) x[2], (int) x[3]);
            case "asks": return asks((int) x[0], (int) x[1], (int) x[2], (int) x[3], (int) x[4]);
            case "masked": return masked((int) x[0], (int) x[1]);
            case "look": return look((int) x[0], (int) x[1]);
            case "looked": return looked((int) x[0], (int) x[1]);
            case "export": return export((int) x[0], (int) x[1]);
            case "exported": return inside(x[0], export.size()) ? export.get((int) x[0]) : none();
            case "request": return request((int) x[0], (int) x[1], (int) x[2]);
            case "limit": return limit((int) x[0], (int) x[1]);
            case "idle": return idle((int) x[0]);
            default: return count((int) x[0]);
        }
    }

    private static boolean inside(long k, int size) {
        return k >= 0 && k < size;
    }

    private static int none() {
        throw new NoSuchElementException();
    }

    private static void argument(boolean good) {
        if (!good) {
            throw new IllegalArgumentException();
        }
    }

    private static void state(boolean good) {
        if (!good) {
            throw new IllegalStateException();
        }
    }

    private static void exists(boolean good) {
        if (!good) {
            none();
        }
    }

    private static boolean isDay(int day) {
        return inside(day, 100001);
    }

    private long unit(long[] words) {
        StringBuilder longer = new StringBuilder(pad);
        for (long word : words) {
            for (int k = 0; k < 4; k++) {
                int sign = (int) (word >> (8 * k)) & 255;
                if (sign > 0) {
                    longer.append((char) sign);
                }
            }
        }
        state(longer.length() <= 40);
        pad = longer.toString();
        return pad.length();
    }

    private long rule() {
        state(rules.size() < 20);
        String text = pad;
        pad = "";
        for (int k = 0; k <= text.length(); k++) {
            Matcher matcher = RULE.matcher(text.substring(0, k));
            boolean whole = matcher.matches();
            if (!whole && !matcher.hitEnd()) {
                return RecordRights.NONE - (k - 1);
            }
            if (k == text.length() && !whole) {
                return RecordRights.NONE - k;
            }
        }
        rules.add(text);
        told.add(true);
        return rules.size() - 1;
    }

    private long drop(int rule) {
        exists(inside(rule, rules.size()));
        return told.set(rule, false) ? 1 : 0;
    }

    private long person(int set) {
        argument(inside(set, 256));
        state(roles.size() < 12);
        roles.add(set);
        limits.add(3);
        return roles.size() - 1;
    }

    private long record(int kind, int community) {
        argument(inside(kind, 4) && (community == -1 || inside(community, 8)));
        state(records.size() < 16);
        records.add(new int[] {kind, community});
        values.add(new long[6]);
        embargoes.add(-1);
        return records.size() - 1;
    }

    private long value(int record, int field, long v) {
        exists(inside(record, records.size()) && inside(field, 6));
        long before = values.get(record)[field];
        values.get(record)[field] = v;
        return before;
    }

    private long embargo(int record, int until) {
        exists(inside(record, records.size()));
        argument(until == -1 || isDay(until));
        return embargoes.set(record, until);
    }

    private long agreement(int person, int record, int from, int to) {
        exists(inside(person, roles.size()) && inside(record, records.size()));
        argument(isDay(from) && isDay(to) && from <= to);
        state(agreements.size() < 40);
        agreements.add(new int[] {person, record, from, to});
        return agreements.size();
    }

    private boolean holds(String condition, int[] point) {
        int digit = condition.length() > 1 ? condition.charAt(1) - '0' : 0;
        int[] record = records.get(point[1]);
        switch (condition.charAt(0)) {
            case '!': return !holds(condition.substring(1), point);
            case 'r': return (roles.get(point[0]) >> digit & 1) == 1;
            case 'k': return record[0] == digit;
            case 'f': return point[2] == digit;
            case 'p': return point[3] == digit;
            case 'c': return record[1] == digit;
            default:
                for (int[] a : agreements) {
                    if (a[0] == point[0] && a[1] == point[1] && a[2] <= point[4] && point[4] <= a[3]) {
                        return true;
                    }
                }
                return false;
        }
    }

    private int gets(int[] point, int without) {
        if (embargoes.get(point[1]) >= point[4] && roles.get(point[0]) < 128) {
            return RecordRights.ABSENT;
        }
        int last = RecordRights.ABSENT;
        for (int k = 0; k < rules.size(); k++) {
            String[] parts = rules.get(k).split(" ");
            boolean suits = told.get(k) && k != without;
            for (int c = 1; c < parts.length && suits; c++) {
                suits = holds(parts[c], point);
            }
            if (suits && parts[0].equals("a")) {
                return RecordRights.ABSENT;
            }
            if (suits) {
                last = parts[0].equals("s") ? RecordRights.SHOWN : RecordRights.MASKED;
            }
        }
        return last;
    }

    private long asks(int person, int record, int field, int purpose, int day) {
        exists(inside(person, roles.size()) && inside(record, records.size()));
        exists(inside(field, 6) && inside(purpose, 4));
        argument(isDay(day));
        int got = gets(new int[] {person, record, field, purpose, day}, -1);
        if (got != RecordRights.ABSENT && looks.size() < 100) {
            looks.add(new int[] {person, record, field, purpose, day, got});
        }
        return got;
    }

    private long masked(int record, int field) {
        exists(inside(record, records.size()) && inside(field, 6));
        String text = Long.toString(values.get(record)[field]);
        String sign = text.startsWith("-") ? "-" : "";
        String digits = text.substring(sign.length());
        return digits.length() <= 3 ? 0 : Long.parseLong(sign + digits.substring(0, digits.length() - 3) + "000");
    }

    private long look(int k, int what) {
        exists(inside(k, looks.size()) && inside(what, 6));
        return looks.get(k)[what];
    }

    private long looked(int record, int k) {
        exists(inside(record, records.size()) && k >= 0);
        TreeSet<Integer> persons = new TreeSet<>();
        for (int[] look : looks) {
            if (look[1] == record) {
                persons.add(look[0]);
            }
        }
        return k < persons.size() ? new ArrayList<>(persons).get(k) : RecordRights.NONE;
    }

    private long export(int person, int day) {
        exists(inside(person, roles.size()));
        argument(isDay(day));
        export = new ArrayList<>();
        for (int record = 0; record < records.size(); record++) {
            boolean whole = true;
            for (int field = 0; field < 6; field++) {
                whole &= gets(new int[] {person, record, field, 3, day}, -1) != RecordRights.ABSENT;
            }
            if (whole) {
                export.add(record);
            }
        }
        return export.size();
    }

    private long request(int person, int record, int day) {
        exists(inside(person, roles.size()) && inside(record, records.size()));
        argument(isDay(day));
        state(requests.size() < 60);
        int with = 1;
        for (int[] r : requests) {
            if (r[0] == person && r[1] <= day && r[1] >= day - 29) {
                with++;
            }
        }
        if (with > limits.get(person)) {
            return RecordRights.NONE;
        }
        requests.add(new int[] {person, day});
        return with;
    }

    private long limit(int person, int most) {
        exists(inside(person, roles.size()));
        argument(inside(most, 61));
        return limits.set(person, most);
    }

    private long idle(int day) {
        argument(isDay(day));
        for (int k = 0; k < rules.size(); k++) {
            if (told.get(k) && changesNothing(k, day)) {
                return k;
            }
        }
        return RecordRights.NONE;
    }

    private boolean changesNothing(int rule, int day) {
        for (int k = 0; k < roles.size() * records.size() * 24; k++) {
            int[] point = {k / 24 / records.size(), k / 24 % records.size(), k / 4 % 6, k % 4, day};
            if (gets(point, -1) != gets(point, rule)) {
                return false;
            }
        }
        return true;
    }

    private long count(int what) {
        int stillTold = 0;
        for (boolean is : told) {
            stillTold += is ? 1 : 0;
        }
        int[] counts = {
            pad.length(), rules.size(), stillTold, roles.size(), records.size(), looks.size(), requests.size(),
        };
        argument(inside(what, counts.length));
        return counts[what];
    }
}
