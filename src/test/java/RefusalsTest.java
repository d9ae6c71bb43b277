import java.util.ArrayList;
import java.util.List;

/**
 * "What is refused changes nothing." Two objects are brought to the same state, one of them gets a
 * call that is refused, and then both are looked at: all answers must be the same ones.
 */
public final class RefusalsTest {
    private static final int NONE = LicenceTexts.NONE;
    private static final int REFUSED = LicenceTexts.REFUSED;
    private static final int LEAST = Integer.MIN_VALUE;
    private static final int MOST = Integer.MAX_VALUE;

    /** Something that is done with an object. */
    private interface Deed {
        long on(Counted x);
    }

    private static final class Named {
        final String name;
        final Deed deed;
        final long due;

        Named(String name, Deed deed, long due) {
            this.name = name;
            this.deed = deed;
            this.due = due;
        }
    }

    private interface Look {
        void at(Counted x, StringBuilder seen);
    }

    private static final Look[] LOOKS = {RefusalsTest::seeFound, RefusalsTest::seeTables, RefusalsTest::seeLine,
        RefusalsTest::seeHauls, RefusalsTest::seeFacts, RefusalsTest::seeTape, RefusalsTest::seeDays};

    public static void main(String[] args) {
        List<Deed> states = new ArrayList<>();
        states.add(RefusalsTest::begin);
        states.add(RefusalsTest::fillSome);
        states.add(RefusalsTest::fillSomeAndCut);
        states.add(RefusalsTest::fillSix);
        for (Deed state : states) {
            refuse(state, refusedAlways());
            refuse(state, looksAlone());
        }
        refuse(RefusalsTest::fillSome, refusedBySome());
        refuse(RefusalsTest::fillSomeAndCut, refusedBySome());
        refuse(RefusalsTest::fillSix, refusedBySix());
        wrongText();
        fullTape();
        manyRefusals();
        Checks.end();
    }

    private static void refuse(Deed state, List<Named> calls) {
        for (Named call : calls) {
            for (Look look : LOOKS) {
                Counted touched = new Counted();
                Counted twin = new Counted();
                state.on(touched);
                state.on(twin);
                Checks.due(call.name, call.deed.on(touched), call.due);
                Checks.due("seen after " + call.name, seen(touched, look), seen(twin, look));
            }
        }
    }

    private static String seen(Counted x, Look look) {
        StringBuilder seen = new StringBuilder();
        look.at(x, seen);
        return seen.toString();
    }

    // The states

    private static long begin(Counted x) {
        return 0;
    }

    private static long fillSome(Counted x) {
        x.readText(10, "table 3 5 ; rule fact 0 <= at 0 fact 1 ; rule fact 19 = 6 ; when 1 = 2 need 1 = 1 ;");
        x.readText(20, "rule 1 = 2 ;");
        x.fact(0, 4);
        x.fact(1, 0);
        x.fact(18, 20);
        x.run(10);
        x.write(10, 2);
        x.haul(0, 0, 6);
        x.haul(0, 7, 9);
        x.haul(9, 7, 1);
        return 0;
    }

    private static long fillSomeAndCut(Counted x) {
        fillSome(x);
        x.feed("table 8 ; rule 7 = 8 ; rul");
        return 0;
    }

    private static long fillSix(Counted x) {
        fillSome(x);
        for (int i = 3; i <= 6; i++) {
            x.readText(i * 10, "table " + i + " ; rule fact 0 < " + i + " ;");
        }
        x.feed("x");
        return 0;
    }

    // What can be seen

    private static void seeFound(Counted x, StringBuilder seen) {
        for (int k = 0; k < 5; k++) {
            seen.append(x.explain(k)).append(' ').append(x.broken(k, 0)).append(' ').append(x.broken(k, 1)).append(' ');
            seen.append(x.open(k, 0)).append(' ').append(x.open(k, 1)).append(' ').append(x.open(k, 2)).append(' ');
        }
    }

    private static void seeTables(Counted x, StringBuilder seen) {
        seen.append(x.editions()).append(' ');
        for (int day = 9; day <= 62; day += day % 10 == 0 ? 9 : 1) {
            for (int t = 0; t < 2; t++) {
                for (int k = 0; k < 3; k++) {
                    seen.append(x.table(day, t, k)).append(' ');
                }
            }
        }
    }

    private static void seeLine(Counted x, StringBuilder seen) {
        seen.append(x.line());
    }

    private static void seeHauls(Counted x, StringBuilder seen) {
        for (int haul = 0; haul < 10; haul++) {
            for (int kind = 0; kind < 8; kind++) {
                seen.append(x.byCatch(haul, kind, 0)).append('/').append(x.byCatch(haul, kind, 1)).append(' ');
            }
        }
    }

    private static void seeFacts(Counted x, StringBuilder seen) {
        if (x.editions() < 6) {
            x.unit('\n');
            x.read(9999);
            x.readText(10000, "rule fact 0 = 4 ; rule fact 1 = 0 ; rule fact 18 = 20 ; rule fact 19 = 0 ; "
                + "rule fact 2 = 0 ; rule fact 17 = 0 ;");
        }
        for (int day = 0; day <= 10000; day += 10 + day / 2) {
            seen.append(x.run(day)).append(' ');
            for (int rule = 0; rule < 6; rule++) {
                seen.append(x.explain(rule)).append(' ');
            }
        }
        seen.append(x.run(10000)).append(' ');
        for (int rule = 0; rule < 6; rule++) {
            seen.append(x.explain(rule)).append(' ');
        }
        seen.append(x.clearFacts());
    }

    private static void seeTape(Counted x, StringBuilder seen) {
        x.feed("e 1 = 3 ;");
        seen.append(x.read(200)).append(' ').append(x.editions()).append(' ').append(x.run(200)).append(' ');
        seen.append(x.broken(0, 1)).append(' ').append(x.broken(1, 1)).append(' ');
        x.write(200, 1);
        seen.append(x.line());
        x.write(200, 0);
        seen.append(x.line());
    }

    private static void seeDays(Counted x, StringBuilder seen) {
        for (int day : new int[] {-1, 0, 9, 10, 19, 20, 29, 30, 59, 60, 100000}) {
            seen.append(x.walk(day)).append(' ').append(x.allowed(day, 0, 20)).append(' ');
            seen.append(x.write(day, 0)).append(' ').append(x.write(day, 1)).append(' ');
        }
        x.unit('\n');
        for (int day : new int[] {0, 10, 19, 20, 21, 59, 60, 61, 100000}) {
            seen.append(x.read(day)).append(' ').append(x.editions()).append(' ');
        }
    }

    // The calls

    private static int one(boolean b) {
        return b ? 1 : 0;
    }

    /** Calls that every state refuses. */
    private static List<Named> refusedAlways() {
        List<Named> all = new ArrayList<>();
        for (int day : new int[] {-1, LEAST, 100001, MOST}) {
            all.add(new Named("read(" + day + ")", x -> x.read(day), REFUSED));
        }
        for (int name : new int[] {-1, 20, LEAST, MOST}) {
            all.add(new Named("fact(" + name + ", 7)", x -> one(x.fact(name, 7)), 0));
            all.add(new Named("allowed(10, " + name + ", 5)", x -> x.allowed(10, name, 5), NONE));
        }
        for (int most : new int[] {-1, 21, LEAST, MOST}) {
            for (int name : new int[] {0, 2, 19}) {
                all.add(new Named("allowed(10, " + name + ", " + most + ")", x -> x.allowed(10, name, most), NONE));
            }
        }
        for (int far : new int[] {-1, 12, LEAST, MOST}) {
            all.add(new Named("broken(" + far + ", 0)", x -> x.broken(far, 0), NONE));
            all.add(new Named("broken(0, " + far + ")", x -> x.broken(0, far), NONE));
            all.add(new Named("open(" + far + ", 0)", x -> x.open(far, 0), NONE));
            all.add(new Named("open(0, " + far + ")", x -> x.open(0, far), NONE));
            all.add(new Named("explain(" + far + ")", x -> x.explain(far), NONE));
            all.add(new Named("table(10, " + far + ", 0)", x -> x.table(10, far, 0), Counted.THROWS));
            all.add(new Named("table(10, 0, " + far + ")", x -> x.table(10, 0, far), Counted.THROWS));
            all.add(new Named("write(10, " + far + ")", x -> x.write(10, far), NONE));
            all.add(new Named("written(" + far + ")", x -> x.written(far == 12 ? 800 : far), NONE));
            all.add(new Named("haul(" + far + ", 0, 5)", x -> one(x.haul(far, 0, 5)), 0));
            all.add(new Named("haul(0, " + far + ", 5)", x -> one(x.haul(0, far, 5)), 0));
            all.add(new Named("byCatch(" + far + ", 0, 0)", x -> x.byCatch(far, 0, 0), NONE));
            all.add(new Named("byCatch(0, " + far + ", 1)", x -> x.byCatch(0, far, 1), NONE));
            all.add(new Named("byCatch(0, 0, " + far + ")", x -> x.byCatch(0, 0, far), NONE));
        }
        all.add(new Named("write(9, 0)", x -> x.write(9, 0), NONE));
        all.add(new Named("table(9, 0, 0)", x -> x.table(9, 0, 0), Counted.THROWS));
        all.add(new Named("haul(10, 0, 5)", x -> one(x.haul(10, 0, 5)), 0));
        all.add(new Named("haul(8, 8, 5)", x -> one(x.haul(8, 8, 5)), 0));
        for (long grams : new long[] {0, -1, 1000000001L, 1L << 32, Long.MIN_VALUE, Long.MAX_VALUE}) {
            all.add(new Named("haul(0, 0, " + grams + ")", x -> one(x.haul(0, 0, grams)), 0));
            all.add(new Named("haul(9, 7, " + grams + ")", x -> one(x.haul(9, 7, grams)), 0));
        }
        all.add(new Named("byCatch(5, 0, 0)", x -> x.byCatch(5, 0, 0), NONE));
        return all;
    }

    /** Calls that answer, and change nothing all the same. */
    private static List<Named> looksAlone() {
        List<Named> all = new ArrayList<>();
        all.add(new Named("editions", x -> x.editions() * 0, 0));
        for (int day : new int[] {LEAST, 9, 10, 20, 60, MOST}) {
            all.add(new Named("walk(" + day + ")", x -> x.walk(day) * 0, 0));
            for (int name : new int[] {0, 1, 2, 18, 19}) {
                all.add(new Named("allowed(" + day + ", " + name + ", 20)", x -> x.allowed(day, name, 20) * 0, 0));
                all.add(new Named("allowed(" + day + ", " + name + ", 0)", x -> x.allowed(day, name, 0) * 0, 0));
            }
            all.add(new Named("table(" + day + ", 0, 0)", x -> x.table(day, 0, 0) * 0, 0));
        }
        all.add(new Named("broken(0, 1)", x -> x.broken(0, 1) * 0, 0));
        all.add(new Named("open(0, 2)", x -> x.open(0, 2) * 0, 0));
        all.add(new Named("explain(0)", x -> x.explain(0) * 0, 0));
        all.add(new Named("written(0)", x -> x.written(0) * 0, 0));
        all.add(new Named("byCatch(0, 0, 0)", x -> x.byCatch(0, 0, 0) * 0, 0));
        all.add(new Named("byCatch(9, 7, 1)", x -> x.byCatch(9, 7, 1) * 0, 0));
        return all;
    }

    /** Calls that are refused for what has been read, run and written before. */
    private static List<Named> refusedBySome() {
        List<Named> all = new ArrayList<>();
        for (int day : new int[] {0, 9, 10, 11, 19, 20}) {
            all.add(new Named("read(" + day + ")", x -> x.read(day), REFUSED));
        }
        all.add(new Named("broken(1, 0)", x -> x.broken(1, 0), NONE));
        all.add(new Named("broken(0, 2)", x -> x.broken(0, 2), NONE));
        all.add(new Named("open(1, 0)", x -> x.open(1, 0), NONE));
        all.add(new Named("open(0, 3)", x -> x.open(0, 3), NONE));
        all.add(new Named("explain(3)", x -> x.explain(3), NONE));
        all.add(new Named("table(10, 0, 2)", x -> x.table(10, 0, 2), Counted.THROWS));
        all.add(new Named("table(10, 1, 0)", x -> x.table(10, 1, 0), Counted.THROWS));
        all.add(new Named("table(20, 0, 0)", x -> x.table(20, 0, 0), Counted.THROWS));
        all.add(new Named("allowed(20, 0, 20)", x -> x.allowed(20, 0, 20), NONE));
        all.add(new Named("allowed(10, 2, 20)", x -> x.allowed(10, 2, 20), NONE));
        all.add(new Named("allowed(10, 19, 20)", x -> x.allowed(10, 19, 20), NONE));
        all.add(new Named("write(10, 3)", x -> x.write(10, 3), NONE));
        all.add(new Named("write(20, 1)", x -> x.write(20, 1), NONE));
        all.add(new Named("written(21)", x -> x.written(21), NONE));
        all.add(new Named("byCatch(1, 0, 0)", x -> x.byCatch(1, 0, 0), NONE));
        all.add(new Named("byCatch(0, 0, 2)", x -> x.byCatch(0, 0, 2), NONE));
        return all;
    }

    private static List<Named> refusedBySix() {
        List<Named> all = new ArrayList<>();
        for (int day : new int[] {0, 59, 60, 61, 100000}) {
            all.add(new Named("a seventh by read(" + day + ")", x -> x.read(day), REFUSED));
        }
        return all;
    }

    /** A text that is none empties the tape and changes nothing else. */
    private static void wrongText() {
        for (String text : new String[] {"x", "table 9 ; rule 1 = 2 ; rule", "table 9 9 9 ; x", "rule at 0 0 = 3 ;",
            "table", "when 1 = 1 ;", "rule fact 20 = 1 ;"}) {
            for (Look look : LOOKS) {
                Counted touched = new Counted();
                Counted twin = new Counted();
                fillSome(touched);
                fillSome(twin);
                Checks.due("'" + text + "' is wrong", touched.readText(30, text) < 0, true);
                Checks.due("seen after '" + text + "'", seen(touched, look), seen(twin, look));
            }
        }
    }

    /** Only an object with more calls than are promised has a full tape. */
    private static void fullTape() {
        LicenceTexts x = new LicenceTexts();
        String text = "rule 1 = 2 ;" + " ".repeat(800 - 12 - 13) + " rule 3 = 4 ;";
        Checks.feed(x, text);
        for (int u : new int[] {'x', ' ', '\n', -1, 0}) {
            Checks.due("unit " + u, x.unit(u), false);
        }
        Checks.due("refused bytes are not there", x.read(0), 2);
        Checks.due("its rules", x.run(0), 1);
        Checks.due("its second rule's word", x.broken(1, 1), 5);
        x.write(0, 1);
        Checks.due("its second rule", Checks.writtenText(x), "rule 3 = 4");
    }

    /** All of them one after the other on one object. */
    private static void manyRefusals() {
        for (Look look : LOOKS) {
            Counted touched = new Counted();
            Counted twin = new Counted();
            fillSomeAndCut(touched);
            fillSomeAndCut(twin);
            for (Named call : refusedBySome()) {
                Checks.due(call.name, call.deed.on(touched), call.due);
            }
            for (Named call : refusedAlways()) {
                if (touched.callsLeft() > 180) {
                    Checks.due(call.name, call.deed.on(touched), call.due);
                }
            }
            Checks.due("seen after all refusals", seen(touched, look), seen(twin, look));
        }
    }
}
