import java.math.BigInteger;
import java.util.ArrayList;
import java.util.Arrays;
import java.util.List;
import java.util.TreeMap;

/**
 * The document a second time, by other means than the class: the grammar by recursion, values as
 * BigInteger, what is open as an exception. What the class answers must be what this answers.
 */
final class Model {
    static final long THROWS = Long.MIN_VALUE;

    /** The text stops being one at a word. */
    private static final class Wrong extends RuntimeException {
        private static final long serialVersionUID = 1;
        final int word;

        Wrong(int word) {
            this.word = word;
        }
    }

    private static final class Open extends RuntimeException {
        private static final long serialVersionUID = 1;
        final int reason;
        final int untold;

        Open(int reason, int untold) {
            super(null, null, false, false);
            this.reason = reason;
            this.untold = untold;
        }
    }

    private interface Value {
        BigInteger of(TreeMap<Integer, Long> facts);
    }

    private interface Condition {
        boolean holds(TreeMap<Integer, Long> facts);
    }

    private static final class RuleText {
        int first;
        int end;
        List<Condition> before;
        List<Condition> behind;
    }

    private static final class Text {
        final List<List<Integer>> tables = new ArrayList<>();
        final List<RuleText> rules = new ArrayList<>();
        List<String> words;
    }

    private static final class Found {
        int outcome;
        int reason = -1;
        int untold = -1;
        int word;
    }

    private static final class Parser {
        final List<String> words;
        final Text text = new Text();
        int at = 0;

        Parser(List<String> words) {
            this.words = words;
            text.words = words;
        }

        Text text() {
            while (at < words.size()) {
                if (next("table")) {
                    fail(text.tables.size() >= 8);
                    at++;
                    table();
                } else if (next("rule") || next("when")) {
                    fail(text.rules.size() >= 12);
                    rule();
                } else {
                    throw new Wrong(at);
                }
            }
            return text;
        }

        void table() {
            List<Integer> table = new ArrayList<>();
            do {
                fail(table.size() >= 10);
                table.add(number());
            } while (!next(";"));
            at++;
            text.tables.add(table);
        }

        void rule() {
            RuleText rule = new RuleText();
            rule.first = at;
            boolean when = next("when");
            at++;
            if (when) {
                rule.before = conditions();
                expect("need");
            }
            rule.behind = conditions();
            rule.end = at;
            expect(";");
            text.rules.add(rule);
        }

        List<Condition> conditions() {
            List<Condition> all = new ArrayList<>();
            all.add(condition());
            while (next("and")) {
                at++;
                all.add(condition());
            }
            return all;
        }

        Condition condition() {
            Value left = sum(0);
            String relation = at < words.size() ? words.get(at) : "";
            fail(!Arrays.asList("<", "<=", "=", "/=").contains(relation));
            at++;
            Value right = sum(0);
            return facts -> {
                int c = left.of(facts).compareTo(right.of(facts));
                return relation.equals("<") ? c < 0 : relation.equals("<=") ? c <= 0
                    : relation.equals("=") == (c == 0);
            };
        }

        Value sum(int around) {
            Value sum = term(around);
            while (next("+") || next("-")) {
                sum = joined(words.get(at++), sum, term(around));
            }
            return sum;
        }

        Value term(int around) {
            Value term = atom(around);
            while (next("*") || next("/") || next("%")) {
                term = joined(words.get(at++), term, atom(around));
            }
            return term;
        }

        Value atom(int around) {
            fail(around > 12);
            if (next("(")) {
                at++;
                Value inner = sum(around + 1);
                expect(")");
                return inner;
            }
            if (next("fact")) {
                at++;
                int name = numberBelow(20);
                return facts -> told(facts, name);
            }
            if (next("at")) {
                at++;
                List<Integer> table = text.tables.get(numberBelow(Math.min(20, text.tables.size())));
                Value place = atom(around + 1);
                return facts -> place(table, place.of(facts));
            }
            BigInteger number = BigInteger.valueOf(number());
            return facts -> number;
        }

        int number() {
            fail(at >= words.size() || !words.get(at).matches("[0-9]{1,9}"));
            return Integer.parseInt(words.get(at++));
        }

        int numberBelow(int bound) {
            int number = number();
            if (number >= bound) {
                throw new Wrong(at - 1);
            }
            return number;
        }

        boolean next(String word) {
            return at < words.size() && words.get(at).equals(word);
        }

        void expect(String word) {
            fail(!next(word));
            at++;
        }

        void fail(boolean failing) {
            if (failing) {
                throw new Wrong(at);
            }
        }
    }

    private static BigInteger told(TreeMap<Integer, Long> facts, int name) {
        if (!facts.containsKey(name)) {
            throw new Open(3, name);
        }
        return BigInteger.valueOf(facts.get(name));
    }

    private static BigInteger place(List<Integer> table, BigInteger k) {
        if (k.signum() < 0 || k.compareTo(BigInteger.valueOf(table.size())) >= 0) {
            throw new Open(2, -1);
        }
        return BigInteger.valueOf(table.get(k.intValueExact()));
    }

    private static Value joined(String operator, Value left, Value right) {
        return facts -> {
            BigInteger l = left.of(facts);
            BigInteger r = right.of(facts);
            return BigInteger.valueOf(exact(operator, l, r).longValue());
        };
    }

    private static BigInteger exact(String operator, BigInteger l, BigInteger r) {
        if (operator.equals("+")) {
            return l.add(r);
        }
        if (operator.equals("-")) {
            return l.subtract(r);
        }
        if (operator.equals("*")) {
            return l.multiply(r);
        }
        if (r.signum() == 0) {
            throw new Open(1, -1);
        }
        return operator.equals("/") ? l.divide(r) : l.remainder(r);
    }

    private final StringBuilder tape = new StringBuilder();
    private final TreeMap<Integer, Text> editions = new TreeMap<>();
    private final TreeMap<Integer, Long> facts = new TreeMap<>();
    private List<Found> latest = new ArrayList<>();
    private String line = "";
    private final BigInteger[][] grams = new BigInteger[10][8];

    Model() {
        for (BigInteger[] row : grams) {
            Arrays.fill(row, BigInteger.ZERO);
        }
    }

    boolean unit(int u) {
        if (tape.length() == 800) {
            return false;
        }
        tape.append((char) (u & 0xff));
        return true;
    }

    int read(int day) {
        boolean late = editions.isEmpty() || day > editions.lastKey();
        if (day < 0 || day > 100000 || !late || editions.size() == 6) {
            return -1000;
        }
        List<String> words = new ArrayList<>();
        for (String word : tape.toString().split("[ \n]+")) {
            if (!word.isEmpty()) {
                words.add(word);
            }
        }
        tape.setLength(0);
        try {
            Text text = new Parser(words).text();
            editions.put(day, text);
            return text.rules.size();
        } catch (Wrong wrong) {
            return -1 - wrong.word;
        }
    }

    int editions() {
        return editions.size();
    }

    boolean fact(int name, long v) {
        if (name < 0 || name > 19) {
            return false;
        }
        facts.put(name, v);
        return true;
    }

    int clearFacts() {
        int count = facts.size();
        facts.clear();
        return count;
    }

    private Text textOn(int day) {
        return editions.floorEntry(day) == null ? new Text() : editions.floorEntry(day).getValue();
    }

    private List<Found> look(int day) {
        List<Found> all = new ArrayList<>();
        for (RuleText rule : textOn(day).rules) {
            Found found = new Found();
            found.word = rule.first;
            try {
                if (rule.before != null && !rule.before.stream().allMatch(c -> c.holds(facts))) {
                    found.outcome = 3;
                } else {
                    found.outcome = rule.behind.stream().allMatch(c -> c.holds(facts)) ? 0 : 1;
                }
            } catch (Open open) {
                found.outcome = 2;
                found.reason = open.reason;
                found.untold = open.untold;
            }
            all.add(found);
        }
        return all;
    }

    private static int answer(List<Found> all) {
        int answer = 0;
        for (int i = all.size() - 1; i >= 0; i--) {
            if (all.get(i).outcome == 1) {
                answer = i + 1;
            } else if (all.get(i).outcome == 2 && answer == 0) {
                answer = -1;
            }
        }
        return answer;
    }

    int run(int day) {
        latest = look(day);
        return answer(latest);
    }

    int walk(int day) {
        return answer(look(day));
    }

    private int ranked(int outcome, int k) {
        List<Integer> rules = new ArrayList<>();
        for (int i = 0; i < latest.size(); i++) {
            if (latest.get(i).outcome == outcome) {
                rules.add(i);
            }
        }
        return k < 0 || k >= rules.size() ? -1 : rules.get(k);
    }

    int broken(int k, int what) {
        int rule = ranked(1, k);
        return rule < 0 || what < 0 || what > 1 ? -1 : what == 0 ? rule : latest.get(rule).word;
    }

    int open(int k, int what) {
        int rule = ranked(2, k);
        if (rule < 0 || what < 0 || what > 2) {
            return -1;
        }
        return what == 0 ? rule : what == 1 ? latest.get(rule).reason : latest.get(rule).untold;
    }

    int explain(int rule) {
        return rule < 0 || rule >= latest.size() ? -1 : latest.get(rule).outcome;
    }

    /** THROWS where the document wants an exception. */
    long table(int day, int t, int k) {
        List<List<Integer>> tables = textOn(day).tables;
        if (t < 0 || t >= tables.size() || k < 0 || k >= tables.get(t).size()) {
            return THROWS;
        }
        return tables.get(t).get(k);
    }

    int allowed(int day, int name, int most) {
        if (name < 0 || name > 19 || most < 0 || most > 20) {
            return -1;
        }
        TreeMap<Integer, Long> before = new TreeMap<>(facts);
        int greatest = -1;
        for (long v = 0; v <= most; v++) {
            facts.put(name, v);
            if (walk(day) == 0) {
                greatest = (int) v;
            }
        }
        facts.clear();
        facts.putAll(before);
        return greatest;
    }

    int write(int day, int k) {
        Text text = textOn(day);
        if (k < 0 || k >= text.rules.size()) {
            return -1;
        }
        line = String.join(" ", text.words.subList(text.rules.get(k).first, text.rules.get(k).end));
        return line.length();
    }

    int written(int i) {
        return i < 0 || i >= line.length() ? -1 : line.charAt(i);
    }

    boolean haul(int haul, int kind, long more) {
        if (haul < 0 || haul > 9 || kind < 0 || kind > 7 || more < 1 || more > 1000000000L) {
            return false;
        }
        grams[haul][kind] = grams[haul][kind].add(BigInteger.valueOf(more));
        return true;
    }

    long byCatch(int haul, int kind, int part) {
        if (haul < 0 || haul > 9 || kind < 0 || kind > 7 || part < 0 || part > 1) {
            return -1;
        }
        BigInteger all = BigInteger.ZERO;
        for (BigInteger one : grams[haul]) {
            all = all.add(one);
        }
        if (all.signum() == 0) {
            return -1;
        }
        BigInteger above = grams[haul][kind];
        return (part == 0 ? above : all).divide(above.gcd(all)).longValueExact();
    }
}
