import java.util.ArrayList;
import java.util.List;
import java.util.Random;

/**
 * Random runs of at most 512 calls on the class and on the model, with the same seeds every time.
 */
public final class ModelTest {
    private static final int RUNS = 60000;
    // At most so many calls has a look; and a round besides its text and its looks.
    private static final int LOOK_CALLS = 40;
    private static final int ROUND_CALLS = 24;
    private static final String[] WORDS = {"table", "rule", "when", "need", "and", ";", "(", ")", "fact", "at", "+",
        "-", "*", "/", "%", "<", "<=", "=", "/=", "0", "1", "7", "19", "20", "007", "123456789", "1234567890", "x",
        "=<", "1x"};
    private static final long[] VALUES = {0, 1, 2, 3, -1, -2, 5, 10, 20, Long.MAX_VALUE, Long.MIN_VALUE, 1L << 32};

    private final Random random;
    private final Counted x;
    private final Model model;
    private int day;
    private int tables;
    private static int texts = 0;
    private static int wrongTexts = 0;
    private static final int[] outcomes = new int[4];

    private ModelTest(long seed) {
        random = new Random(seed);
        x = new Counted();
        model = new Model();
        day = random.nextInt(5) - 1;
    }

    public static void main(String[] args) {
        for (int run = 0; run < RUNS; run++) {
            new ModelTest(run).run();
        }
        System.out.println(texts + " texts, " + wrongTexts + " wrong ones; holds " + outcomes[0] + ", broken "
            + outcomes[1] + ", open " + outcomes[2] + ", idle " + outcomes[3]);
        Checks.end();
    }

    private void run() {
        while (x.callsLeft() >= ROUND_CALLS) {
            String tape = tapeOf(text());
            feed(tape.substring(0, Math.min(tape.length(), x.callsLeft() - ROUND_CALLS)));
            readEdition();
            for (int i = below(13); i > 0; i--) {
                tell();
            }
            fish();
            for (int i = below(6); i > 0 && x.callsLeft() >= LOOK_CALLS; i--) {
                look();
            }
        }
    }

    private int below(int n) {
        return random.nextInt(n);
    }

    /** Mostly a number that may be one such, at times one far off. */
    private int near(int n) {
        int[] far = {Integer.MIN_VALUE, Integer.MAX_VALUE, -2, 1000};
        return below(20) == 0 ? far[below(4)] : below(n + 2) - 1;
    }

    private int someDay() {
        return below(10) == 0 ? near(100000) : day - 4 + below(8);
    }

    private String tapeOf(List<String> words) {
        StringBuilder s = new StringBuilder();
        for (String word : words) {
            s.append(below(12) == 0 ? (below(2) == 0 ? "\n" : " \n ") : " ").append(word);
        }
        return s.substring(Math.min(s.length(), below(2)));
    }

    private void feed(String text) {
        for (int i = 0; i < text.length(); i++) {
            int u = text.charAt(i) + 256 * (below(5) - 2);
            Checks.due("unit(" + u + ")", x.unit(u), model.unit(u));
        }
    }

    private void readEdition() {
        if (below(10) == 0) {
            int refused = below(2) == 0 ? day : near(3);
            Checks.due("read(" + refused + ")", x.read(refused), model.read(refused));
        }
        day += 1 + below(3);
        int got = x.read(day);
        Checks.due("read(" + day + ")", got, model.read(day));
        Checks.due("editions", x.editions(), model.editions());
        if (got != LicenceTexts.REFUSED) {
            texts++;
            wrongTexts += got < 0 ? 1 : 0;
        }
    }

    private void tell() {
        if (below(25) == 0) {
            Checks.due("clearFacts", x.clearFacts(), model.clearFacts());
            return;
        }
        int name = below(3) == 0 ? near(20) : below(6);
        long v = below(3) == 0 ? VALUES[below(VALUES.length)] : below(8);
        Checks.due("fact(" + name + ", " + v + ")", x.fact(name, v), model.fact(name, v));
    }

    private void look() {
        int on = someDay();
        if (below(2) == 0) {
            Checks.due("run(" + on + ")", x.run(on), model.run(on));
        }
        int other = someDay();
        Checks.due("walk(" + other + ")", x.walk(other), model.walk(other));
        int name = near(7);
        int most = near(21);
        Checks.due("allowed(" + on + ", " + name + ", " + most + ")", x.allowed(on, name, most),
            model.allowed(on, name, most));
        found();
        int t = near(3);
        int k = near(5);
        Checks.due("table(" + on + ", " + t + ", " + k + ")", tableOf(on, t, k), model.table(on, t, k));
        int rule = near(4);
        Checks.due("write(" + on + ", " + rule + ")", x.write(on, rule), model.write(on, rule));
        for (int i = 0; i < 5; i++) {
            int at = near(60);
            Checks.due("written(" + at + ")", x.written(at), model.written(at));
        }
    }

    private void found() {
        for (int rule = -1; rule < 6; rule++) {
            int at = rule < 5 ? rule : near(12);
            int outcome = x.explain(at);
            Checks.due("explain(" + at + ")", outcome, model.explain(at));
            if (outcome >= 0) {
                outcomes[outcome]++;
            }
        }
        for (int i = 0; i < 9; i++) {
            int k = below(2) == 0 ? below(2) : near(6);
            int what = near(3);
            Checks.due("broken(" + k + ", " + what + ")", x.broken(k, what), model.broken(k, what));
            Checks.due("open(" + k + ", " + what + ")", x.open(k, what), model.open(k, what));
        }
    }

    private long tableOf(int on, int t, int k) {
        int got = x.table(on, t, k);
        return got == Counted.THROWS ? Model.THROWS : got;
    }

    private void fish() {
        int haul = near(10);
        int kind = near(8);
        long grams = below(6) == 0 ? near(9) * 1000000000L : 1 + below(60);
        Checks.due("haul(" + haul + ", " + kind + ", " + grams + ")", x.haul(haul, kind, grams),
            model.haul(haul, kind, grams));
        int other = below(2) == 0 ? kind : near(8);
        for (int part = -1; part < 3; part++) {
            Checks.due("byCatch(" + haul + ", " + other + ", " + part + ")", x.byCatch(haul, other, part),
                model.byCatch(haul, other, part));
        }
    }

    // Texts, most of them right, some of them with a word or two changed.

    private List<String> text() {
        List<String> words = new ArrayList<>();
        tables = 0;
        int items = below(40) == 0 ? 14 : below(6);
        for (int i = 0; i < items; i++) {
            item(words, items > 10);
        }
        for (int i = below(3) - 1; i > 0; i--) {
            spoil(words);
        }
        return words;
    }

    private void spoil(List<String> words) {
        if (words.isEmpty()) {
            return;
        }
        int at = below(words.size());
        switch (below(4)) {
            case 0:
                words.remove(at);
                break;
            case 1:
                words.add(at, WORDS[below(WORDS.length)]);
                break;
            case 2:
                words.set(at, WORDS[below(WORDS.length)]);
                break;
            default:
                words.subList(at, words.size()).clear();
        }
    }

    private void item(List<String> words, boolean small) {
        int kind = below(small ? 40 : 4);
        if (kind == 0) {
            words.add("table");
            for (int i = below(30) == 0 ? 10 : 1 + below(4); i > 0; i--) {
                words.add(String.valueOf(below(8)));
            }
            words.add(";");
            tables++;
            return;
        }
        words.add(kind == 1 ? "when" : "rule");
        conditions(words, small);
        if (kind == 1) {
            words.add("need");
            conditions(words, small);
        }
        words.add(";");
    }

    private void conditions(List<String> words, boolean small) {
        int count = small ? 1 : 1 + below(2);
        for (int i = 0; i < count; i++) {
            if (i > 0) {
                words.add("and");
            }
            int depth = small ? 0 : below(60) == 0 ? 14 : below(4);
            sum(words, depth);
            words.add(WORDS[15 + below(4)]);
            sum(words, below(2));
        }
    }

    private void sum(List<String> words, int depth) {
        atom(words, depth);
        for (int i = depth > 4 ? 0 : below(4) - 1; i > 0; i--) {
            words.add(WORDS[10 + below(5)]);
            atom(words, depth);
        }
    }

    private void atom(List<String> words, int depth) {
        int kind = depth > 4 ? 2 + below(2) : below(4);
        if (kind == 2 && depth > 0) {
            words.add("(");
            sum(words, depth - 1);
            words.add(")");
        } else if (kind == 3 && depth > 0 && tables > 0) {
            words.add("at");
            words.add(String.valueOf(below(60) == 0 ? tables : below(tables)));
            atom(words, depth - 1);
        } else if (kind == 1) {
            words.add("fact");
            words.add(String.valueOf(below(6)));
        } else {
            words.add(String.valueOf(below(30) == 0 ? 999999999 : below(6)));
        }
    }
}
