/**
 * "Nothing is promised beyond the answers and state changes described above": a call changes what
 * its own promise names and nothing else.
 */
public final class ChangesTest {
    private static final Twins.Deed[] STATES = {Twins::begin, Twins::fillSome, Twins::fillSomeAndCut, Twins::fillSix};
    private static final int[] DAYS = {Integer.MIN_VALUE, -1, 0, 9, 10, 19, 20, 29, 60, 100000, Integer.MAX_VALUE};

    public static void main(String[] args) {
        unit();
        read();
        fact();
        clearFacts();
        run();
        write();
        haul();
        objects();
        Checks.end();
    }

    /** The call's answer is tested elsewhere; here it counts what is seen of it by other calls. */
    private static void dueUnseen(String name, Twins.Deed deed, Twins.Look... looks) {
        for (Twins.Deed state : STATES) {
            dueUnseenIn(state, name, deed, looks);
        }
    }

    private static void dueUnseenIn(Twins.Deed state, String name, Twins.Deed deed, Twins.Look... looks) {
        Twins.Named call = new Twins.Named(name, x -> deed.on(x) * 0, 0);
        for (Twins.Look look : looks) {
            Twins.dueUnseen(state, call, look);
        }
    }

    // Promise 2: the tape alone

    private static void unit() {
        for (int u : new int[] {'x', ' ', '\n', ';', 0, 255, -1, Integer.MIN_VALUE}) {
            dueUnseen("unit(" + u + ")", x -> x.unit(u) ? 1 : 0, Twins.FOUND, Twins.TABLES, Twins.LINE, Twins.HAULS,
                Twins.FACTS, Twins.EARLY);
        }
    }

    // Promise 3: the tape, and the days from the edition's own on

    private static void read() {
        String[] texts = {"", "table 9 9 ; table 8 ;", "rule 1 = 2 ; rule fact 5 = 1 ; rule 1 = 1 ;",
            "table 9 ; rule fact 0 = at 0 fact 1 ; when 1 = 1 need 1 = 2 ;"};
        for (String text : texts) {
            Twins.Deed deed = x -> x.readText(30, text);
            Twins.Look[] looks = {Twins.FOUND, Twins.LINE, Twins.HAULS, Twins.EARLY};
            dueUnseenIn(Twins::begin, "read of '" + text + "'", deed, looks);
            dueUnseenIn(Twins::fillSome, "read of '" + text + "'", deed, looks);
        }
        dueUnseenIn(Twins::fillSomeAndCut, "read of a cut text", x -> x.read(30), Twins.FOUND, Twins.TABLES, Twins.LINE,
            Twins.HAULS, Twins.FACTS, Twins.EARLY);
    }

    // Promise 5: the facts, not what was found with other ones

    private static void fact() {
        for (int name = 0; name < 20; name++) {
            for (long v : new long[] {0, 4, -1, Long.MIN_VALUE, Long.MAX_VALUE}) {
                int told = name;
                dueUnseen("fact(" + name + ", " + v + ")", x -> x.fact(told, v) ? 1 : 0, Twins.FOUND, Twins.TABLES,
                    Twins.LINE, Twins.HAULS, Twins.TAPE);
            }
        }
    }

    // Promise 6: the facts, not what was found with them

    private static void clearFacts() {
        dueUnseen("clearFacts", x -> x.clearFacts(), Twins.FOUND, Twins.TABLES, Twins.LINE, Twins.HAULS, Twins.TAPE);
        Counted x = Counted.with("rule fact 0 = 1 ; rule fact 1 = 1 ; rule fact 2 = 1 ;");
        x.fact(0, 1);
        x.fact(1, 2);
        x.run(0);
        x.clearFacts();
        Checks.due("it held", x.explain(0), 0);
        Checks.due("it was broken", x.broken(0, 0), 1);
        Checks.due("it was open", x.open(0, 2), 2);
        Checks.due("all are open now", x.walk(0), -1);
    }

    // Promise 7: what is found

    private static void run() {
        for (int day : DAYS) {
            dueUnseen("run(" + day + ")", x -> x.run(day), Twins.TABLES, Twins.LINE, Twins.HAULS, Twins.FACTS,
                Twins.TAPE, Twins.DAYS, Twins.EARLY);
        }
    }

    // Promise 14: what is written

    private static void write() {
        for (int day : DAYS) {
            for (int k = 0; k < 3; k++) {
                int rule = k;
                dueUnseen("write(" + day + ", " + k + ")", x -> x.write(day, rule), Twins.FOUND, Twins.TABLES,
                    Twins.HAULS, Twins.FACTS, Twins.TAPE, Twins.DAYS, Twins.EARLY);
            }
        }
    }

    // Promise 16: the grams of one kind in one haul

    private static void haul() {
        for (int haul = 0; haul < 10; haul++) {
            for (int kind = 0; kind < 8; kind++) {
                int h = haul;
                int k = kind;
                dueUnseen("haul(" + haul + ", " + kind + ")", x -> x.haul(h, k, 1000000000L) ? 1 : 0, Twins.FOUND,
                    Twins.TABLES, Twins.LINE, Twins.FACTS, Twins.TAPE, Twins.DAYS, Twins.EARLY);
            }
        }
    }

    // Promise 1: what is done with one object can't be seen of another, older or newer one

    private static void objects() {
        for (Twins.Look look : Twins.LOOKS) {
            String due = Twins.seen(new Counted(), look);
            Counted older = new Counted();
            Twins.fillSomeAndCut(new Counted());
            Checks.due("an older object", Twins.seen(older, look), due);
            Checks.due("a newer object", Twins.seen(new Counted(), look), due);
        }
    }
}
