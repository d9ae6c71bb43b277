/** A new object of the class whose calls are counted, so that no test leaves the 512 that are promised. */
final class Counted {
    static final int THROWS = Integer.MIN_VALUE;
    static final int MOST_CALLS = 512;

    private final LicenceTexts x = new LicenceTexts();
    private int calls = 0;

    private LicenceTexts next() {
        calls++;
        if (calls > MOST_CALLS) {
            throw new AssertionError("the test makes more than " + MOST_CALLS + " calls");
        }
        return x;
    }

    int callsLeft() {
        return MOST_CALLS - calls;
    }

    boolean unit(int u) {
        return next().unit(u);
    }

    int read(int day) {
        return next().read(day);
    }

    int editions() {
        return next().editions();
    }

    boolean fact(int name, long v) {
        return next().fact(name, v);
    }

    int clearFacts() {
        return next().clearFacts();
    }

    int run(int day) {
        return next().run(day);
    }

    int walk(int day) {
        return next().walk(day);
    }

    int broken(int k, int what) {
        return next().broken(k, what);
    }

    int open(int k, int what) {
        return next().open(k, what);
    }

    int explain(int rule) {
        return next().explain(rule);
    }

    /** THROWS for the document's exception; one of the machine's own is a fault. */
    int table(int day, int t, int k) {
        try {
            return next().table(day, t, k);
        } catch (IndexOutOfBoundsException e) {
            Checks.due("thrown by a throw", e.getClass() == IndexOutOfBoundsException.class, true);
            return THROWS;
        }
    }

    int allowed(int day, int name, int most) {
        return next().allowed(day, name, most);
    }

    int write(int day, int k) {
        return next().write(day, k);
    }

    int written(int i) {
        return next().written(i);
    }

    boolean haul(int haul, int kind, long grams) {
        return next().haul(haul, kind, grams);
    }

    long byCatch(int haul, int kind, int part) {
        return next().byCatch(haul, kind, part);
    }

    Counted feed(String text) {
        for (int i = 0; i < text.length(); i++) {
            Checks.due("unit of '" + text.charAt(i) + "'", unit(text.charAt(i)), true);
        }
        return this;
    }

    int readText(int day, String text) {
        return feed(text).read(day);
    }

    /** A new object with one edition, from day 0 on. */
    static Counted with(String text) {
        Counted x = new Counted();
        Checks.due("'" + text + "' is a text", x.readText(0, text) >= 0, true);
        return x;
    }

    /** All bytes of what was written last. */
    String line() {
        StringBuilder s = new StringBuilder();
        for (int b = written(0); b != LicenceTexts.NONE; b = written(s.length())) {
            s.append((char) b);
        }
        return s.toString();
    }
}
