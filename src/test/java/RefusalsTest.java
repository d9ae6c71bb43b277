import java.util.ArrayList;
import java.util.List;

/**
 * "What is refused changes nothing.": a call that is refused, and one that only looks, can't be seen
 * in any answer behind it.
 */
public final class RefusalsTest {
    private static final int NONE = LicenceTexts.NONE;
    private static final int REFUSED = LicenceTexts.REFUSED;
    private static final int LEAST = Integer.MIN_VALUE;
    private static final int MOST = Integer.MAX_VALUE;

    public static void main(String[] args) {
        List<Twins.Deed> states = new ArrayList<>();
        states.add(Twins::begin);
        states.add(Twins::fillSome);
        states.add(Twins::fillSomeAndCut);
        states.add(Twins::fillSix);
        for (Twins.Deed state : states) {
            refuse(state, refusedAlways());
            refuse(state, looksAlone());
        }
        refuse(Twins::fillSome, refusedBySome());
        refuse(Twins::fillSomeAndCut, refusedBySome());
        refuse(Twins::fillSix, refusedBySix());
        wrongText();
        fullTape();
        manyRefusals();
        Checks.end();
    }

    private static void refuse(Twins.Deed state, List<Twins.Named> calls) {
        for (Twins.Named call : calls) {
            for (Twins.Look look : Twins.LOOKS) {
                Twins.dueUnseen(state, call, look);
            }
        }
    }

    // The calls

    private static int one(boolean b) {
        return b ? 1 : 0;
    }

    /** Calls that every state refuses. */
    private static List<Twins.Named> refusedAlways() {
        List<Twins.Named> all = new ArrayList<>();
        for (int day : new int[] {-1, LEAST, 100001, MOST}) {
            all.add(new Twins.Named("read(" + day + ")", x -> x.read(day), REFUSED));
        }
        for (int name : new int[] {-1, 20, LEAST, MOST}) {
            all.add(new Twins.Named("fact(" + name + ", 7)", x -> one(x.fact(name, 7)), 0));
            all.add(new Twins.Named("allowed(10, " + name + ", 5)", x -> x.allowed(10, name, 5), NONE));
        }
        for (int most : new int[] {-1, 21, LEAST, MOST}) {
            for (int name : new int[] {0, 2, 19}) {
                all.add(new Twins.Named("allowed(10, " + name + ", " + most + ")", x -> x.allowed(10, name, most),
                    NONE));
            }
        }
        for (int far : new int[] {-1, 12, LEAST, MOST}) {
            all.add(new Twins.Named("broken(" + far + ", 0)", x -> x.broken(far, 0), NONE));
            all.add(new Twins.Named("broken(0, " + far + ")", x -> x.broken(0, far), NONE));
            all.add(new Twins.Named("open(" + far + ", 0)", x -> x.open(far, 0), NONE));
            all.add(new Twins.Named("open(0, " + far + ")", x -> x.open(0, far), NONE));
            all.add(new Twins.Named("explain(" + far + ")", x -> x.explain(far), NONE));
            all.add(new Twins.Named("table(10, " + far + ", 0)", x -> x.table(10, far, 0), Counted.THROWS));
            all.add(new Twins.Named("table(10, 0, " + far + ")", x -> x.table(10, 0, far), Counted.THROWS));
            all.add(new Twins.Named("write(10, " + far + ")", x -> x.write(10, far), NONE));
            all.add(new Twins.Named("written(" + far + ")", x -> x.written(far == 12 ? 800 : far), NONE));
            all.add(new Twins.Named("haul(" + far + ", 0, 5)", x -> one(x.haul(far, 0, 5)), 0));
            all.add(new Twins.Named("haul(0, " + far + ", 5)", x -> one(x.haul(0, far, 5)), 0));
            all.add(new Twins.Named("byCatch(" + far + ", 0, 0)", x -> x.byCatch(far, 0, 0), NONE));
            all.add(new Twins.Named("byCatch(0, " + far + ", 1)", x -> x.byCatch(0, far, 1), NONE));
            all.add(new Twins.Named("byCatch(0, 0, " + far + ")", x -> x.byCatch(0, 0, far), NONE));
        }
        all.add(new Twins.Named("write(9, 0)", x -> x.write(9, 0), NONE));
        all.add(new Twins.Named("table(9, 0, 0)", x -> x.table(9, 0, 0), Counted.THROWS));
        all.add(new Twins.Named("haul(10, 0, 5)", x -> one(x.haul(10, 0, 5)), 0));
        all.add(new Twins.Named("haul(8, 8, 5)", x -> one(x.haul(8, 8, 5)), 0));
        for (long grams : new long[] {0, -1, 1000000001L, 1L << 32, Long.MIN_VALUE, Long.MAX_VALUE}) {
            all.add(new Twins.Named("haul(0, 0, " + grams + ")", x -> one(x.haul(0, 0, grams)), 0));
            all.add(new Twins.Named("haul(9, 7, " + grams + ")", x -> one(x.haul(9, 7, grams)), 0));
        }
        all.add(new Twins.Named("byCatch(5, 0, 0)", x -> x.byCatch(5, 0, 0), NONE));
        return all;
    }

    /** Calls that answer, and change nothing all the same. */
    private static List<Twins.Named> looksAlone() {
        List<Twins.Named> all = new ArrayList<>();
        all.add(new Twins.Named("editions", x -> x.editions() * 0, 0));
        for (int day : new int[] {LEAST, 9, 10, 20, 60, MOST}) {
            all.add(new Twins.Named("walk(" + day + ")", x -> x.walk(day) * 0, 0));
            for (int name : new int[] {0, 1, 2, 18, 19}) {
                all.add(new Twins.Named("allowed(" + day + ", " + name + ", 20)", x -> x.allowed(day, name, 20) * 0,
                    0));
                all.add(new Twins.Named("allowed(" + day + ", " + name + ", 0)", x -> x.allowed(day, name, 0) * 0, 0));
            }
            all.add(new Twins.Named("table(" + day + ", 0, 0)", x -> x.table(day, 0, 0) * 0, 0));
        }
        all.add(new Twins.Named("broken(0, 1)", x -> x.broken(0, 1) * 0, 0));
        all.add(new Twins.Named("open(0, 2)", x -> x.open(0, 2) * 0, 0));
        all.add(new Twins.Named("explain(0)", x -> x.explain(0) * 0, 0));
        all.add(new Twins.Named("written(0)", x -> x.written(0) * 0, 0));
        all.add(new Twins.Named("byCatch(0, 0, 0)", x -> x.byCatch(0, 0, 0) * 0, 0));
        all.add(new Twins.Named("byCatch(9, 7, 1)", x -> x.byCatch(9, 7, 1) * 0, 0));
        return all;
    }

    /** Calls that are refused for what has been read, run and written before. */
    private static List<Twins.Named> refusedBySome() {
        List<Twins.Named> all = new ArrayList<>();
        for (int day : new int[] {0, 9, 10, 11, 19, 20}) {
            all.add(new Twins.Named("read(" + day + ")", x -> x.read(day), REFUSED));
        }
        all.add(new Twins.Named("broken(1, 0)", x -> x.broken(1, 0), NONE));
        all.add(new Twins.Named("broken(0, 2)", x -> x.broken(0, 2), NONE));
        all.add(new Twins.Named("open(1, 0)", x -> x.open(1, 0), NONE));
        all.add(new Twins.Named("open(0, 3)", x -> x.open(0, 3), NONE));
        all.add(new Twins.Named("explain(3)", x -> x.explain(3), NONE));
        all.add(new Twins.Named("table(10, 0, 2)", x -> x.table(10, 0, 2), Counted.THROWS));
        all.add(new Twins.Named("table(10, 1, 0)", x -> x.table(10, 1, 0), Counted.THROWS));
        all.add(new Twins.Named("table(20, 0, 0)", x -> x.table(20, 0, 0), Counted.THROWS));
        all.add(new Twins.Named("allowed(20, 0, 20)", x -> x.allowed(20, 0, 20), NONE));
        all.add(new Twins.Named("allowed(10, 2, 20)", x -> x.allowed(10, 2, 20), NONE));
        all.add(new Twins.Named("allowed(10, 19, 20)", x -> x.allowed(10, 19, 20), NONE));
        all.add(new Twins.Named("write(10, 3)", x -> x.write(10, 3), NONE));
        all.add(new Twins.Named("write(20, 1)", x -> x.write(20, 1), NONE));
        all.add(new Twins.Named("written(21)", x -> x.written(21), NONE));
        all.add(new Twins.Named("byCatch(1, 0, 0)", x -> x.byCatch(1, 0, 0), NONE));
        all.add(new Twins.Named("byCatch(0, 0, 2)", x -> x.byCatch(0, 0, 2), NONE));
        return all;
    }

    private static List<Twins.Named> refusedBySix() {
        List<Twins.Named> all = new ArrayList<>();
        for (int day : new int[] {0, 59, 60, 61, 100000}) {
            all.add(new Twins.Named("a seventh by read(" + day + ")", x -> x.read(day), REFUSED));
        }
        return all;
    }

    /** A text that is none empties the tape and changes nothing else. */
    private static void wrongText() {
        for (String text : new String[] {"x", "table 9 ; rule 1 = 2 ; rule", "table 9 9 9 ; x", "rule at 0 0 = 3 ;",
            "table", "when 1 = 1 ;", "rule fact 20 = 1 ;"}) {
            for (Twins.Look look : Twins.LOOKS) {
                Counted touched = new Counted();
                Counted twin = new Counted();
                Twins.fillSome(touched);
                Twins.fillSome(twin);
                Checks.due("'" + text + "' is wrong", touched.readText(30, text) < 0, true);
                Checks.due("seen after '" + text + "'", Twins.seen(touched, look), Twins.seen(twin, look));
            }
        }
    }

    /** Only an object with more calls than are promised has a full tape. */
    private static void fullTape() {
        LicenceTexts x = new LicenceTexts();
        String text = "rule 1 = 2 ;" + " ".repeat(800 - 12 - 13) + " rule 3 = 4 ;";
        Checks.feed(x, text);
        for (int u : new int[] {'x', ' ', '\n', -1, 0}) {
            Checks.due("unit " + u, x.unit(u), false);
        }
        Checks.due("refused bytes are not there", x.read(0), 2);
        Checks.due("its rules", x.run(0), 1);
        Checks.due("its second rule's word", x.broken(1, 1), 5);
        x.write(0, 1);
        Checks.due("its second rule", Checks.writtenText(x), "rule 3 = 4");
    }

    /** All of them one after the other on one object. */
    private static void manyRefusals() {
        for (Twins.Look look : Twins.LOOKS) {
            Counted touched = new Counted();
            Counted twin = new Counted();
            Twins.fillSomeAndCut(touched);
            Twins.fillSomeAndCut(twin);
            for (Twins.Named call : refusedBySome()) {
                Checks.due(call.name, call.deed.on(touched), call.due);
            }
            for (Twins.Named call : refusedAlways()) {
                if (touched.callsLeft() > 180) {
                    Checks.due(call.name, call.deed.on(touched), call.due);
                }
            }
            Checks.due("seen after all refusals", Twins.seen(touched, look), Twins.seen(twin, look));
        }
    }
}
