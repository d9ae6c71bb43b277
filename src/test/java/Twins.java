/**
 * Two objects are brought to the same state, one of them gets a call, and then both are looked at:
 * what the call must not change is seen alike on both.
 */
final class Twins {
    static final Look FOUND = Twins::seeFound;
    static final Look TABLES = Twins::seeTables;
    static final Look LINE = Twins::seeLine;
    static final Look HAULS = Twins::seeHauls;
    static final Look FACTS = Twins::seeFacts;
    static final Look TAPE = Twins::seeTape;
    static final Look DAYS = Twins::seeDays;
    static final Look EARLY = Twins::seeEarly;
    static final Look[] LOOKS = {FOUND, TABLES, LINE, HAULS, FACTS, TAPE, DAYS, EARLY};

    private Twins() {
    }

    /** Something that is done with an object. */
    interface Deed {
        long on(Counted x);
    }

    interface Look {
        void at(Counted x, StringBuilder seen);
    }

    static final class Named {
        final String name;
        final Deed deed;
        final long due;

        Named(String name, Deed deed, long due) {
            this.name = name;
            this.deed = deed;
            this.due = due;
        }
    }

    /** The call answers what is due, and the look does not tell whether it was made. */
    static void dueUnseen(Deed state, Named call, Look look) {
        Counted touched = new Counted();
        Counted twin = new Counted();
        state.on(touched);
        state.on(twin);
        Checks.due(call.name, call.deed.on(touched), call.due);
        Checks.due("seen after " + call.name, seen(touched, look), seen(twin, look));
    }

    static String seen(Counted x, Look look) {
        StringBuilder seen = new StringBuilder();
        look.at(x, seen);
        return seen.toString();
    }

    // The states

    static long begin(Counted x) {
        return 0;
    }

    static long fillSome(Counted x) {
        x.readText(10, "table 3 5 ; rule fact 0 <= at 0 fact 1 ; rule fact 19 = 6 ; when 1 = 2 need 1 = 1 ;");
        x.readText(20, "rule 1 = 2 ;");
        x.fact(0, 4);
        x.fact(1, 0);
        x.fact(18, 20);
        x.run(10);
        x.write(10, 2);
        x.haul(0, 0, 6);
        x.haul(0, 7, 9);
        x.haul(9, 7, 1);
        return 0;
    }

    static long fillSomeAndCut(Counted x) {
        fillSome(x);
        x.feed("table 8 ; rule 7 = 8 ; rul");
        return 0;
    }

    static long fillSix(Counted x) {
        fillSome(x);
        for (int i = 3; i <= 6; i++) {
            x.readText(i * 10, "table " + i + " ; rule fact 0 < " + i + " ;");
        }
        x.feed("x");
        return 0;
    }

    // What can be seen

    static void seeFound(Counted x, StringBuilder seen) {
        for (int k = 0; k < 5; k++) {
            seen.append(x.explain(k)).append(' ').append(x.broken(k, 0)).append(' ').append(x.broken(k, 1)).append(' ');
            seen.append(x.open(k, 0)).append(' ').append(x.open(k, 1)).append(' ').append(x.open(k, 2)).append(' ');
        }
    }

    static void seeTables(Counted x, StringBuilder seen) {
        seen.append(x.editions()).append(' ');
        for (int day = 9; day <= 62; day += day % 10 == 0 ? 9 : 1) {
            for (int t = 0; t < 2; t++) {
                for (int k = 0; k < 3; k++) {
                    seen.append(x.table(day, t, k)).append(' ');
                }
            }
        }
    }

    static void seeLine(Counted x, StringBuilder seen) {
        seen.append(x.line());
    }

    static void seeHauls(Counted x, StringBuilder seen) {
        for (int haul = 0; haul < 10; haul++) {
            for (int kind = 0; kind < 8; kind++) {
                seen.append(x.byCatch(haul, kind, 0)).append('/').append(x.byCatch(haul, kind, 1)).append(' ');
            }
        }
    }

    static void seeFacts(Counted x, StringBuilder seen) {
        if (x.editions() < 6) {
            x.unit('\n');
            x.read(9999);
            x.readText(10000, "rule fact 0 = 4 ; rule fact 1 = 0 ; rule fact 18 = 20 ; rule fact 19 = 0 ; "
                + "rule fact 2 = 0 ; rule fact 17 = 0 ;");
        }
        for (int day = 0; day <= 10000; day += 10 + day / 2) {
            seen.append(x.run(day)).append(' ');
            for (int rule = 0; rule < 6; rule++) {
                seen.append(x.explain(rule)).append(' ');
            }
        }
        seen.append(x.run(10000)).append(' ');
        for (int rule = 0; rule < 6; rule++) {
            seen.append(x.explain(rule)).append(' ');
        }
        seen.append(x.clearFacts());
    }

    static void seeTape(Counted x, StringBuilder seen) {
        x.feed("e 1 = 3 ;");
        int rules = x.read(200);
        seen.append(rules).append(' ').append(x.editions()).append(' ');
        if (rules > 0) {
            seen.append(x.run(200)).append(' ').append(x.broken(0, 1)).append(' ').append(x.broken(1, 1)).append(' ');
        }
        for (int k = 0; k < rules; k++) {
            seen.append(x.write(200, k)).append(' ').append(x.line());
        }
    }

    static void seeDays(Counted x, StringBuilder seen) {
        for (int day : new int[] {-1, 0, 9, 10, 19, 20, 29, 30, 59, 60, 100000}) {
            seen.append(x.walk(day)).append(' ').append(x.allowed(day, 0, 20)).append(' ');
            seen.append(x.write(day, 0)).append(' ').append(x.write(day, 1)).append(' ');
        }
        x.unit('\n');
        for (int day : new int[] {0, 10, 19, 20, 21, 59, 60, 61, 100000}) {
            seen.append(x.read(day)).append(' ').append(x.editions()).append(' ');
        }
    }

    /** What the two editions of fillSome() and the facts are, whatever editions come behind them. */
    static void seeEarly(Counted x, StringBuilder seen) {
        for (int day : new int[] {9, 10, 19, 20}) {
            seen.append(x.run(day)).append(' ').append(x.walk(day)).append(' ');
            seen.append(x.table(day, 0, 1)).append(' ').append(x.table(day, 1, 0)).append(' ');
            for (int k = 0; k < 3; k++) {
                seen.append(x.explain(k)).append(' ').append(x.broken(k, 1)).append(' ').append(x.open(k, 2));
                seen.append(' ').append(x.allowed(day, k, 20)).append(' ');
                if (x.write(day, k) != LicenceTexts.NONE) {
                    seen.append(x.line()).append(' ');
                }
            }
        }
        seen.append(x.clearFacts());
    }
}
