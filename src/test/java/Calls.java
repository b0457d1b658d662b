/** Calls of the class by their names, for tests that draw calls or read them from a text. */
final class Calls {
    private Calls() {
    }

    /** The answer as a number: true is 1, false is 0. */
    static long call(RecordRights rights, String name, long[] x) {
        switch (name) {
            case "unit": return rights.unit((int) x[0], (int) x[1], (int) x[2], (int) x[3]);
            case "rule": return rights.rule();
            case "drop": return rights.drop((int) x[0]) ? 1 : 0;
            case "person": return rights.person((int) x[0]);
            case "record": return rights.record((int) x[0], (int) x[1]);
            case "value": return rights.value((int) x[0], (int) x[1], x[2]);
            case "embargo": return rights.embargo((int) x[0], (int) x[1]);
            case "agreement": return rights.agreement((int) x[0], (int) x[1], (int) x[2], (int) x[3]);
            case "asks": return rights.asks((int) x[0], (int) x[1], (int) x[2], (int) x[3], (int) x[4]);
            case "masked": return rights.masked((int) x[0], (int) x[1]);
            case "look": return rights.look((int) x[0], (int) x[1]);
            case "looked": return rights.looked((int) x[0], (int) x[1]);
            case "export": return rights.export((int) x[0], (int) x[1]);
            case "exported": return rights.exported((int) x[0]);
            case "request": return rights.request((int) x[0], (int) x[1], (int) x[2]);
            case "limit": return rights.limit((int) x[0], (int) x[1]);
            case "idle": return rights.idle((int) x[0]);
            case "count": return rights.count((int) x[0]);
            default: throw new UnsupportedOperationException("no such call: " + name);
        }
    }
}
