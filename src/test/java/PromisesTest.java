/** Each promise of the document by hand: ordinary inputs, the edges it names, wrong inputs. */
public final class PromisesTest {
    private static final int NONE = LicenceTexts.NONE;
    private static final int REFUSED = LicenceTexts.REFUSED;
    private static final int[] FAR = {-1, Integer.MIN_VALUE, Integer.MAX_VALUE};

    public static void main(String[] args) {
        newObject();
        unit();
        readsTexts();
        readsWrongWords();
        readsLimits();
        readRefuses();
        editions();
        fact();
        clearFacts();
        run();
        reckons();
        opens();
        walk();
        broken();
        open();
        explain();
        table();
        allowed();
        write();
        written();
        haul();
        byCatch();
        Checks.end();
    }

    // Promise 1

    private static void newObject() {
        Counted x = new Counted();
        Checks.due("new: editions", x.editions(), 0);
        Checks.due("new: clearFacts", x.clearFacts(), 0);
        Checks.due("new: run", x.run(100000), 0);
        Checks.due("new: broken", x.broken(0, 0), NONE);
        Checks.due("new: open", x.open(0, 0), NONE);
        Checks.due("new: explain", x.explain(0), NONE);
        Checks.due("new: written", x.written(0), NONE);
        for (int h = 0; h < 10; h++) {
            Checks.due("new: byCatch", x.byCatch(h, 0, 1), NONE);
        }
        Checks.due("NONE", NONE, -1);
        Checks.due("REFUSED", REFUSED, -1000);
        Counted y = Counted.with("rule 1 = 2 ;");
        y.run(0);
        Checks.due("objects share nothing", x.editions() + x.run(0), 0);
    }

    // Promise 2

    private static void unit() {
        LicenceTexts x = new LicenceTexts();
        for (int i = 0; i < 800; i++) {
            Checks.due("unit " + i, x.unit(' '), true);
        }
        Checks.due("unit 800", x.unit(' '), false);
        Checks.due("a refused byte is not there", x.unit('x'), false);
        Checks.due("read of 800 blanks", x.read(0), 0);
        Checks.due("unit on the empty tape", x.unit('x'), true);

        LicenceTexts low = new LicenceTexts();
        int high = 0x7fffff00;
        for (char c : "rule 1 = 1 ;".toCharArray()) {
            low.unit(c == ' ' ? -256 + 32 : high + c);
        }
        Checks.due("the lowest eight bits", low.read(0), 1);

        LicenceTexts full = new LicenceTexts();
        Checks.feed(full, "table 7 ;" + Checks.repeated(" ", 800 - 9 - 13) + " rule 1 = 2 ;");
        Checks.due("a full tape", full.unit(';'), false);
        Checks.due("a full tape's text", full.read(0), 1);
        Checks.due("its first word", full.run(0) * 100 + full.broken(0, 1), 103);
        full.write(0, 0);
        Checks.due("a full tape's rule", Checks.writtenText(full), "rule 1 = 2");
        fullTapes();
    }

    private static void fullTapes() {
        LicenceTexts again = new LicenceTexts();
        Checks.due("a wrong text", Checks.readText(again, 1, "y"), -1);
        for (int i = 0; i < 800; i++) {
            Checks.due("its tape is empty", again.unit('z'), true);
        }
        Checks.due("one long word", again.read(1), -1);

        String rule = "rule " + Checks.repeated("1 + ", 196) + "1 = 199";
        LicenceTexts large = Checks.with(rule + " ;");
        Checks.due("a rule that fills the tape", large.write(0, 0), rule.length());
        Checks.due("a rule that fills the tape", Checks.writtenText(large), rule);
        Checks.due("it is reckoned", large.run(0), 1);
    }

    // Promise 3

    private static void dueRead(String text, int want) {
        Counted x = new Counted();
        Checks.due("read of '" + text + "'", x.readText(7, text), want);
        Checks.due("editions after '" + text + "'", x.editions(), want < 0 ? 0 : 1);
        Checks.due("the tape after '" + text + "'", x.read(8), 0);
    }

    private static void readsTexts() {
        dueRead("", 0);
        dueRead(" \n\n ", 0);
        dueRead("table 1 ;", 0);
        dueRead("table 000000000 999999999 ;", 0);
        dueRead("rule 1 < 2 ;", 1);
        dueRead("\nrule\n1\n\n<=  2 ;\n", 1);
        dueRead("when 1 = 1 need 2 /= 3 ;", 1);
        dueRead("when 1 = 1 and 1 = 1 need 2 /= 3 and 1 < 2 and 1 < 3 ;", 1);
        dueRead("rule 1 = 1 ; table 1 2 ; when 1 = 1 need 1 = 1 ; rule at 0 1 = 2 ;", 3);
        dueRead("rule fact 0 < fact 19 ;", 1);
        dueRead("rule fact 000000019 < fact 00 ;", 1);
        dueRead("table 1 ; rule at 00 0 = 1 ;", 1);
        dueRead("rule 1 + 2 - 3 * 4 / 5 % 6 = 1 * 2 * 3 ;", 1);
        dueRead("rule ( 1 ) = ( ( 2 + 3 ) * 4 ) ;", 1);
        dueRead("table 1 ; rule at 0 at 0 ( 1 + fact 1 ) = at 0 0 * 2 ;", 1);
    }

    private static void readsWrongWords() {
        dueRead("x", -1);
        dueRead(";", -1);
        dueRead("Rule 1 = 1 ;", -1);
        dueRead("rules 1 = 1 ;", -1);
        dueRead("rul 1 = 1 ;", -1);
        dueRead("\trule 1 = 1 ;", -1);
        dueRead("rule\r1 = 1 ;", -1);
        dueRead("rule", -2);
        dueRead("rule ;", -2);
        dueRead("rule and 1 = 1 ;", -2);
        dueRead("rule - 1 = 1 ;", -2);
        dueRead("rule -1 = 1 ;", -2);
        dueRead("rule 1a = 1 ;", -2);
        dueRead("rule 0000000001 = 1 ;", -2);
        dueRead("rule (1 ) = 1 ;", -2);
        dueRead("rule ) = 1 ;", -2);
        dueRead("rule 1", -3);
        dueRead("rule 1 ;", -3);
        dueRead("rule 1 and", -3);
        dueRead("rule 1 2", -3);
        dueRead("rule 1 ) = 1 ;", -3);
        dueRead("rule 1 > 1 ;", -3);
        dueRead("rule 1 == 1 ;", -3);
        dueRead("rule 1 >= 1 ;", -3);
        dueRead("rule 1 = = 1 ;", -4);
        dueRead("rule 1 + * 1 ;", -4);
        dueRead("rule 1 = 1;", -4);
        dueRead("rule 1 = 1 = 1 ;", -5);
        dueRead("rule 1 = 1 need 1 = 1 ;", -5);
        dueRead("rule 1 = 1 rule", -5);
        dueRead("rule 1 = 1 )", -5);
        dueRead("rule 1 = 1 and", -6);
        dueRead("rule 1 = 1 and ;", -6);
        dueRead("rule 1 = 1 ; ;", -6);
        dueRead("rule 1 = 1 ; 1", -6);
        dueRead("when 1 = 1 ;", -5);
        dueRead("when 1 = 1 need ;", -6);
        dueRead("when 1 = 1 need 1 = 1 need 1 = 1 ;", -9);
        dueRead("when need 1 = 1 ;", -2);
        dueRead("when 1 need", -3);
        dueRead("rule ( 1 ;", -4);
        dueRead("rule ( 1 and", -4);
        dueRead("rule ( 1 < 2 ) ;", -4);
        dueRead("rule ( )", -3);
        dueRead("rule ( 1 )", -5);
        dueRead("rule ( 1 ) ( 2 )", -5);
        dueRead("rule ( 1 ) ) = 1 ;", -5);
        dueRead("rule 1 = ( 1 ) ) ;", -7);
        dueRead("rule 1 = ( 1 ;", -6);
        dueRead("rule fact", -3);
        dueRead("rule fact x", -3);
        dueRead("rule fact 20 = 1 ;", -3);
        dueRead("rule fact fact 1 = 1 ;", -3);
        dueRead("rule fact ( 1 ) = 1 ;", -3);
        dueRead("rule fact 0000000001 = 1 ;", -3);
        dueRead("rule at", -3);
        dueRead("rule at 0 0 = 1 ; table 1 ;", -3);
        dueRead("table 1 ; rule at 1 0 = 1 ;", -6);
        dueRead("table 1 ; rule at ( 0 ) 0 = 1 ;", -6);
        dueRead("table 1 ; rule at 0 = 1 ;", -7);
        dueRead("table 1 ; rule at 0", -7);
        dueRead("table", -2);
        dueRead("table ;", -2);
        dueRead("table x ;", -2);
        dueRead("table 1", -3);
        dueRead("table 1 x", -3);
        dueRead("table 1 rule", -3);
        dueRead("table 1 1234567890 ;", -3);
    }

    private static void readsLimits() {
        dueRead("table 1 2 3 4 5 6 7 8 9 10 ;", 0);
        dueRead("table 1 2 3 4 5 6 7 8 9 10 11", -12);
        dueRead("table 1 2 3 4 5 6 7 8 9 10", -12);
        dueRead(Checks.repeated("table 1 ; ", 8), 0);
        dueRead(Checks.repeated("table 1 ; ", 8) + "rule at 7 0 = at 8 0 ;", -31);
        dueRead(Checks.repeated("table 1 ; ", 8) + "table", -25);
        dueRead(Checks.repeated("table 1 ; ", 8) + "table x", -25);
        dueRead(Checks.repeated("rule 1 = 1 ; ", 12), 12);
        dueRead(Checks.repeated("rule 1 = 1 ; ", 12) + "table 1 ;", 12);
        dueRead(Checks.repeated("rule 1 = 1 ; ", 12) + "rule 1 = 1 ;", -61);
        dueRead(Checks.repeated("rule 1 = 1 ; ", 12) + "when 1 = 1 need 1 = 1 ;", -61);
        dueRead("rule " + Checks.repeated("( ", 12) + "1 " + Checks.repeated(") ", 12) + "= 1 ;", 1);
        dueRead("rule 1 = " + Checks.repeated("( ", 12) + "fact 1 " + Checks.repeated(") ", 12) + ";", 1);
        dueRead("rule " + Checks.repeated("( ", 13), -15);
        dueRead("rule " + Checks.repeated("( ", 13) + "1", -15);
        dueRead("rule " + Checks.repeated("( ", 13) + ")", -15);
        dueRead("rule " + Checks.repeated("( ", 13) + "fact", -15);
        dueRead("rule " + Checks.repeated("( ", 14), -15);
        dueRead("table 0 ; rule " + Checks.repeated("at 0 ", 12) + "0 = 0 ;", 1);
        dueRead("table 0 ; rule " + Checks.repeated("at 0 ", 13) + "0 = 0 ;", -31);
        dueRead("table 0 ; rule " + Checks.repeated("at 0 ", 13) + "at 0", -31);
        dueRead("table 0 ; rule " + Checks.repeated("at 0 ( ", 6) + "0 " + Checks.repeated(") ", 6) + "= 0 ;", 1);
        dueRead("table 0 ; rule " + Checks.repeated("at 0 ( ", 6) + "( 0 )", -24);
        // Closed brackets and places do not lie around what comes behind them.
        dueRead("table 0 ; rule " + Checks.repeated("( at 0 0 ) + ", 14) + Checks.repeated("( ", 12)
            + "at 0 0", -103);
        dueRead("table 0 ; rule " + Checks.repeated("( at 0 0 ) + ", 14) + Checks.repeated("( ", 12)
            + "1 " + Checks.repeated(") ", 12) + "= 0 ;", 1);
        dueRead("rule " + Checks.repeated("1 + ", 120) + "1 = 121 ;", 1);
    }

    private static void readRefuses() {
        Counted x = new Counted();
        x.feed("rule 1 = 1 ;");
        Checks.due("read below 0", x.read(-1), REFUSED);
        Checks.due("read above the last day", x.read(100001), REFUSED);
        Checks.due("read far below", x.read(Integer.MIN_VALUE), REFUSED);
        Checks.due("the tape stays", x.read(50), 1);
        x.feed("rule 1 = 1 ; rule 2 = 2 ;");
        Checks.due("read of the same day", x.read(50), REFUSED);
        Checks.due("read of an earlier day", x.read(49), REFUSED);
        Checks.due("editions", x.editions(), 1);
        Checks.due("read of the next day", x.read(51), 2);
        Checks.due("wrong word", x.readText(100000, "rule 1 = 1 ; y"), -6);
        Checks.due("no edition of a wrong text", x.read(52), 0);
        x.read(53);
        x.read(54);
        Checks.due("the last day", x.read(100000), 0);
        Checks.due("six", x.editions(), 6);
        x.feed("y");
        Checks.due("none above the last day", x.read(100001), REFUSED);

        Counted again = new Counted();
        Checks.due("a wrong text", again.readText(0, "rule 1 = 1 ; table"), -7);
        Checks.due("nothing of it stays", again.readText(0, "rule 1 = 2 ;"), 1);
        Checks.due("a wrong text again", again.readText(1, "y"), -1);
        Checks.due("its tape is empty", again.read(1), 0);

        Counted six = new Counted();
        for (int d = 0; d < 6; d++) {
            Checks.due("day " + d, six.read(d), 0);
        }
        six.feed("y");
        Checks.due("a seventh", six.read(6), REFUSED);
        Checks.due("still six", six.editions(), 6);
    }

    // Promise 4

    private static void editions() {
        Counted x = new Counted();
        Checks.due("editions", x.editions(), 0);
        x.read(3);
        Checks.due("editions", x.editions(), 1);
        x.readText(4, "table");
        Checks.due("editions", x.editions(), 1);
        x.read(3);
        Checks.due("editions", x.editions(), 1);
        x.read(4);
        Checks.due("editions", x.editions(), 2);
    }

    // Promise 5

    private static void fact() {
        Counted x = Counted.with("rule fact 0 = 5 ; rule fact 19 = 6 ;");
        Checks.due("fact 0", x.fact(0, 5), true);
        Checks.due("fact 19", x.fact(19, 7), true);
        Checks.due("run", x.run(0), 2);
        Checks.due("fact 19 anew", x.fact(19, 6), true);
        Checks.due("run", x.run(0), 0);
        Checks.due("fact 20", x.fact(20, 0), false);
        for (int name : FAR) {
            Checks.due("fact " + name, x.fact(name, 0), false);
        }
        Checks.due("run", x.run(0), 0);
        Checks.due("told", x.clearFacts(), 2);
    }

    // Promise 6

    private static void clearFacts() {
        Counted x = Counted.with("rule fact 3 = 0 ;");
        for (int name = 0; name < 20; name++) {
            x.fact(name, 0);
        }
        x.fact(3, 0);
        Checks.due("run", x.run(0), 0);
        Checks.due("clearFacts", x.clearFacts(), 20);
        Checks.due("clearFacts again", x.clearFacts(), 0);
        Checks.due("run", x.run(0), -1);
        x.fact(4, 1);
        Checks.due("clearFacts of one", x.clearFacts(), 1);
    }

    // Promise 7

    private static void run() {
        Counted x = new Counted();
        x.readText(10, "rule 1 = 1 ; rule fact 0 = 1 ; rule 1 = 2 ; rule 1 = 3 ;");
        x.readText(20, "rule fact 0 = 1 ;");
        x.read(30);
        x.readText(40, "rule fact 0 = 1 ; rule 2 < 1 ;");
        Checks.due("before the first", x.run(9), 0);
        Checks.due("far before", x.run(Integer.MIN_VALUE), 0);
        Checks.due("the first", x.run(10), 3);
        Checks.due("the first's last day", x.run(19), 3);
        Checks.due("the second", x.run(20), -1);
        Checks.due("one without rules", x.run(39), 0);
        Checks.due("the latest", x.run(40), 2);
        Checks.due("far behind", x.run(Integer.MAX_VALUE), 2);
        x.fact(0, 2);
        Checks.due("the least", x.run(40), 1);
        Checks.due("the least of the first", x.run(10), 2);
        x.fact(0, 1);
        Checks.due("the second holds", x.run(20), 0);
    }

    private static int judged(String condition) {
        Counted x = Counted.with("rule " + condition + " ;");
        x.fact(0, Long.MAX_VALUE);
        x.fact(1, Long.MIN_VALUE);
        x.fact(2, -7);
        x.fact(3, -1);
        x.run(0);
        return x.explain(0);
    }

    private static void dueHolds(String condition) {
        Checks.due("explain of '" + condition + "'", judged(condition), 0);
    }

    private static void dueBroken(String condition) {
        Checks.due("explain of '" + condition + "'", judged(condition), 1);
    }

    private static void reckons() {
        dueHolds("1 < 2");
        dueBroken("2 < 2");
        dueHolds("2 <= 2");
        dueBroken("3 <= 2");
        dueHolds("2 = 2");
        dueBroken("2 = 3");
        dueHolds("2 /= 3");
        dueBroken("2 /= 2");
        dueHolds("1 + 2 * 3 = 7");
        dueHolds("( 1 + 2 ) * 3 = 9");
        dueHolds("10 - 3 - 2 = 5");
        dueHolds("10 - ( 3 - 2 ) = 9");
        dueHolds("10 - 3 + 2 = 9");
        dueHolds("100 / 5 / 2 = 10");
        dueHolds("100 / 7 * 7 = 98");
        dueHolds("2 * 7 % 4 = 2");
        dueHolds("7 % 4 * 2 = 6");
        dueHolds("1 + 2 * 3 - 8 / 4 % 2 = 7");
        dueHolds("2 * ( 3 + 4 ) * 5 = 70");
        dueHolds("fact 2 / 2 + 3 = 0");
        dueHolds("fact 2 % 4 = 0 - 3");
        dueHolds("7 / ( 0 - 2 ) = 0 - 3");
        dueHolds("7 % ( 0 - 4 ) = 3");
        dueHolds("fact 0 + 1 = fact 1");
        dueHolds("fact 1 - 1 = fact 0");
        dueHolds("fact 0 * fact 0 = 1");
        dueHolds("fact 1 / fact 3 = fact 1");
        dueHolds("fact 1 % fact 3 = 0");
        dueHolds("fact 1 < fact 0");
        dueHolds("999999999 * 999999999 = 999999998 * 1000 * 1000000 + 1");
    }

    private static void dueOpen(String text, int reason, int untold) {
        Counted x = Counted.with(text);
        x.fact(0, 0);
        x.fact(1, 1);
        Checks.due("run of '" + text + "'", x.run(0), -1);
        Checks.due("explain of '" + text + "'", x.explain(0), 2);
        Checks.due("reason of '" + text + "'", x.open(0, 1), reason);
        Checks.due("fact of '" + text + "'", x.open(0, 2), untold);
    }

    private static void dueOutcome(String text, int outcome) {
        Counted x = Counted.with(text);
        x.fact(0, 0);
        x.fact(1, 1);
        x.run(0);
        Checks.due("explain of '" + text + "'", x.explain(0), outcome);
    }

    private static void opens() {
        dueOpen("rule 1 / 0 = 1 ;", 1, NONE);
        dueOpen("rule 1 % fact 0 = 1 ;", 1, NONE);
        dueOpen("rule 1 = 0 / 0 ;", 1, NONE);
        dueOpen("rule fact 5 / 0 = 1 ;", 3, 5);
        dueOpen("rule 1 / 0 * fact 5 = 1 ;", 1, NONE);
        dueOpen("rule 1 + fact 6 * ( 1 / 0 ) = 1 ;", 3, 6);
        dueOpen("rule fact 7 = fact 6 ;", 3, 7);
        dueOpen("rule 1 - 1 / ( 1 - 1 ) = fact 6 ;", 1, NONE);
        dueOpen("table 3 4 ; rule at 0 2 = 1 ;", 2, NONE);
        dueOpen("table 3 4 ; rule at 0 ( 0 - 1 ) = 1 ;", 2, NONE);
        dueOpen("table 3 4 ; rule at 0 ( 65536 * 65536 ) = 3 ;", 2, NONE);
        dueOpen("table 3 4 ; rule at 0 at 0 1 = 3 ;", 2, NONE);
        dueOpen("table 3 4 ; rule at 0 fact 9 = 3 ;", 3, 9);
        dueOpen("table 3 4 ; rule at 0 ( 1 / 0 ) = 3 ;", 1, NONE);
        dueOpen("table 3 4 ; rule 1 / ( at 0 0 - 3 ) = at 0 2 ;", 1, NONE);
        dueOpen("table 3 4 ; table 5 ; rule at 1 1 = 3 ;", 2, NONE);
        dueOpen("rule 1 = 1 and fact 5 = 1 ;", 3, 5);
        dueOpen("when fact 5 = 1 need 1 = 1 ;", 3, 5);
        dueOpen("when 1 = 1 need fact 5 = 1 and 1 = 2 ;", 3, 5);
        dueOutcome("rule 1 = 2 and fact 5 = 1 ;", 1);
        dueOutcome("rule 1 = 2 and 1 / 0 = 1 ;", 1);
        dueOutcome("when 1 = 2 and fact 5 = 1 need fact 5 = 1 ;", 3);
        dueOutcome("when 1 = 1 and 1 = 2 need 1 = 2 ;", 3);
        dueOutcome("when 1 = 2 need 1 / 0 = 1 ;", 3);
        dueOutcome("when 1 = 1 need 1 = 2 and fact 5 = 1 ;", 1);
        dueOutcome("when 1 = 1 need 1 = 1 and 2 = 2 ;", 0);
        dueOutcome("table 3 4 ; rule at 0 0 = 3 and at 0 1 = 4 and at 0 fact 1 * 2 = 8 ;", 0);
        dueOutcome("table 1 0 ; table 7 9 ; rule at 1 at 0 1 + 1 = 8 ;", 0);
    }

    // Promise 8

    private static void walk() {
        Counted x = new Counted();
        x.readText(10, "rule 1 = 1 ; rule fact 0 = 1 ; rule 1 = 2 ;");
        x.readText(20, "rule fact 0 = 1 ;");
        Checks.due("walk before a run", x.walk(10), 3);
        Checks.due("it finds nothing", x.explain(0), NONE);
        x.run(10);
        for (int day : new int[] {Integer.MIN_VALUE, -1, 0, 9}) {
            Checks.due("walk(" + day + ")", x.walk(day), 0);
        }
        Checks.due("walk(19)", x.walk(19), 3);
        for (int day : new int[] {20, 100001, Integer.MAX_VALUE}) {
            Checks.due("walk(" + day + ")", x.walk(day), -1);
        }
        Checks.due("broken stays", x.broken(0, 0), 2);
        Checks.due("open stays", x.open(0, 0), 1);
        Checks.due("explain stays", x.explain(0), 0);
        x.fact(0, 1);
        Checks.due("walk with the fact", x.walk(20), 0);
        Checks.due("what was found stays", x.open(0, 2), 0);
    }

    // Promise 9

    private static void broken() {
        Counted x = new Counted();
        x.readText(0, "table 1 2 ; rule 1 = 1 ; rule 1 = 2 ; rule fact 0 = 1 ; when 1 = 1 need 1 = 2 ;");
        x.readText(5, "rule 1 = 2 ;");
        x.run(0);
        Checks.due("first broken", x.broken(0, 0), 1);
        Checks.due("its word", x.broken(0, 1), 9);
        Checks.due("second broken", x.broken(1, 0), 3);
        Checks.due("its word", x.broken(1, 1), 20);
        Checks.due("no third", x.broken(2, 0), NONE);
        Checks.due("no third word", x.broken(2, 1), NONE);
        Checks.due("other what", x.broken(0, 2), NONE);
        for (int far : FAR) {
            Checks.due("far k", x.broken(far, 0), NONE);
            Checks.due("far k, word", x.broken(far, 1), NONE);
            Checks.due("far what", x.broken(0, far), NONE);
        }
        x.readText(9, "rule 1 = 1 ;");
        x.fact(0, 2);
        Checks.due("it stays", x.broken(1, 0), 3);
        x.run(5);
        Checks.due("a later run", x.broken(0, 1), 0);
        Checks.due("a later run's second", x.broken(1, 0), NONE);
        x.run(-1);
        Checks.due("a run without rules", x.broken(0, 0), NONE);
    }

    // Promise 10

    private static void open() {
        Counted x = Counted.with(
            "table 1 ; rule 1 = 1 ; rule fact 4 = 1 ; rule 1 / 0 = 1 ; rule 1 = 2 ; rule at 0 1 = 1 ;");
        x.run(0);
        int[][] want = {{1, 3, 4}, {2, 1, NONE}, {4, 2, NONE}, {NONE, NONE, NONE}};
        for (int k = 0; k < 4; k++) {
            for (int what = 0; what < 3; what++) {
                Checks.due("open(" + k + ", " + what + ")", x.open(k, what), want[k][what]);
            }
            Checks.due("open(" + k + ", 3)", x.open(k, 3), NONE);
        }
        for (int far : FAR) {
            Checks.due("far k", x.open(far, 0), NONE);
            Checks.due("far k, reason", x.open(far, 1), NONE);
            Checks.due("far k, fact", x.open(far, 2), NONE);
            Checks.due("far what", x.open(0, far), NONE);
        }
        x.fact(4, 1);
        Checks.due("it stays", x.open(0, 2), 4);
        x.run(0);
        Checks.due("a later run", x.open(0, 0), 2);
    }

    // Promise 11

    private static void explain() {
        Counted x = Counted.with(
            "rule 1 = 1 ; rule 1 = 2 ; rule fact 0 = 1 ; when 1 = 2 need 1 = 2 ; when 1 = 1 need 1 = 1 ;");
        Checks.due("before a run", x.explain(0), NONE);
        x.run(0);
        int[] want = {0, 1, 2, 3, 0, NONE};
        for (int rule = 0; rule < want.length; rule++) {
            Checks.due("explain(" + rule + ")", x.explain(rule), want[rule]);
        }
        Checks.due("explain(12)", x.explain(12), NONE);
        for (int far : FAR) {
            Checks.due("far rule", x.explain(far), NONE);
        }
        x.run(-1);
        Checks.due("a run without rules", x.explain(0), NONE);
    }

    // Promise 12

    private static boolean throwsBounds(Counted x, int day, int t, int k) {
        return x.table(day, t, k) == Counted.THROWS;
    }

    private static void table() {
        Counted x = new Counted();
        Checks.due("no edition", throwsBounds(x, 0, 0, 0), true);
        x.readText(3, "table 4 05 ; table 999999999 ;");
        x.readText(6, "table 1 2 3 4 5 6 7 8 9 10 ;");
        Checks.due("table(3, 0, 0)", x.table(3, 0, 0), 4);
        Checks.due("table(5, 0, 1)", x.table(5, 0, 1), 5);
        Checks.due("table(5, 1, 0)", x.table(5, 1, 0), 999999999);
        Checks.due("table(6, 0, 9)", x.table(6, 0, 9), 10);
        Checks.due("table(max, 0, 0)", x.table(Integer.MAX_VALUE, 0, 0), 1);
        int[][] none = {{2, 0, 0}, {3, 0, 2}, {3, 1, 1}, {3, 2, 0}, {6, 1, 0}, {6, 0, 10}, {6, 0, -1}, {6, -1, 0},
            {-1, 0, 0}, {6, 8, 0}, {3, 0, 10}};
        for (int[] n : none) {
            Checks.due("table(" + n[0] + ", " + n[1] + ", " + n[2] + ") throws",
                throwsBounds(x, n[0], n[1], n[2]), true);
        }
        for (int far : FAR) {
            Checks.due("far table throws", throwsBounds(x, 3, far, 0), true);
            Checks.due("far number throws", throwsBounds(x, 3, 0, far), true);
        }
    }

    // Promise 13

    private static void allowed() {
        Counted x = new Counted();
        x.readText(5, "table 3 5 8 ; rule fact 0 <= at 0 fact 1 ; when 10 <= fact 0 need 1 = 2 ;");
        Checks.due("before the first", x.allowed(4, 0, 20), 20);
        Checks.due("open whatever fact 0 is", x.allowed(5, 0, 20), NONE);
        x.fact(1, 1);
        Checks.due("allowed", x.allowed(5, 0, 20), 5);
        Checks.due("allowed far behind", x.allowed(Integer.MAX_VALUE, 0, 20), 5);
        Checks.due("up to the most", x.allowed(5, 0, 4), 4);
        Checks.due("up to 0", x.allowed(5, 0, 0), 0);
        Checks.due("the fact stays untold", x.run(5), -1);
        x.fact(0, 6);
        Checks.due("run", x.run(5), 1);
        Checks.due("by the other fact", x.allowed(5, 1, 20), 2);
        Checks.due("by the told fact", x.allowed(5, 0, 20), 5);
        Checks.due("what was found stays", x.broken(0, 0), 0);
        Checks.due("the fact stays told", x.walk(5), 1);
        Checks.due("facts told", x.clearFacts(), 2);
        Checks.due("no such fact", x.allowed(5, 20, 3), NONE);
        Checks.due("most of 21", x.allowed(4, 0, 21), NONE);
        for (int far : FAR) {
            Checks.due("far fact", x.allowed(4, far, 3), NONE);
            Checks.due("far most", x.allowed(4, 0, far), NONE);
        }
        Counted gaps = Counted.with("rule fact 2 % 7 = 3 ;");
        Checks.due("with gaps", gaps.allowed(0, 2, 20), 17);
        Checks.due("with gaps, less", gaps.allowed(0, 2, 16), 10);
        Checks.due("with gaps, none", gaps.allowed(0, 2, 2), NONE);
        Checks.due("the only one", Counted.with("rule fact 2 = 0 ;").allowed(0, 2, 20), 0);
        gaps.fact(2, 10);
        gaps.allowed(0, 2, 20);
        Checks.due("the fact's value stays", gaps.run(0), 0);
    }

    // Promises 14 and 15

    private static void dueWritten(Counted x, int day, int k, String want) {
        Checks.due("write(" + day + ", " + k + ")", x.write(day, k), want.length());
        Checks.due("written", x.line(), want);
    }

    private static void write() {
        Counted x = new Counted();
        Checks.due("no edition", x.write(0, 0), NONE);
        x.readText(3, "\n table 1 ;\n rule  007 <= \n( 3 +  at 00 4 )\n;"
            + " table 2 ; when fact 1 /= 2 need 3 % 4 = 5 and 1 < 2 ;");
        x.readText(5, "rule 1 = 1 ;");
        dueWritten(x, 3, 0, "rule 007 <= ( 3 + at 00 4 )");
        dueWritten(x, 4, 1, "when fact 1 /= 2 need 3 % 4 = 5 and 1 < 2");
        dueWritten(x, Integer.MAX_VALUE, 0, "rule 1 = 1");
        Checks.due("before the first", x.write(2, 0), NONE);
        Checks.due("no such rule", x.write(5, 1), NONE);
        Checks.due("no such rule", x.write(3, 2), NONE);
        for (int far : FAR) {
            Checks.due("far rule", x.write(5, far), NONE);
        }
        Checks.due("what was written stays", x.line(), "rule 1 = 1");
        x.readText(6, "rule 2 = 2 ;");
        dueWritten(x, 5, 0, "rule 1 = 1");
    }

    private static void written() {
        Counted x = Counted.with("rule 1 = 1 ; rule 10 = 1 ;");
        Checks.due("before write", x.written(0), NONE);
        Checks.due("write", x.write(0, 1), 11);
        Checks.due("the first byte", x.written(0), 'r');
        Checks.due("a blank", x.written(4), ' ');
        Checks.due("the last byte", x.written(10), '1');
        Checks.due("behind it", x.written(11), NONE);
        for (int far : FAR) {
            Checks.due("far byte", x.written(far), NONE);
        }
        x.write(0, 0);
        Checks.due("a shorter one's last", x.written(9), '1');
        Checks.due("none of the longer one", x.written(10), NONE);
    }

    // Promise 16

    private static void haul() {
        Counted x = new Counted();
        Checks.due("least", x.haul(0, 0, 1), true);
        Checks.due("most", x.haul(9, 7, 1000000000L), true);
        Checks.due("no grams", x.haul(1, 0, 0), false);
        Checks.due("too many grams", x.haul(1, 0, 1000000001L), false);
        Checks.due("grams below 0", x.haul(1, 0, -1), false);
        Checks.due("grams far above", x.haul(1, 0, (1L << 32) + 5), false);
        Checks.due("grams at the ends", x.haul(1, 0, Long.MAX_VALUE) || x.haul(1, 0, Long.MIN_VALUE), false);
        Checks.due("haul 10", x.haul(10, 0, 1), false);
        Checks.due("kind 8", x.haul(1, 8, 1), false);
        for (int far : FAR) {
            Checks.due("far haul", x.haul(far, 0, 1), false);
            Checks.due("far kind", x.haul(1, far, 1), false);
        }
        Checks.due("refused ones change nothing", x.byCatch(1, 0, 0), NONE);
        Checks.due("nor another haul", x.byCatch(2, 0, 0), NONE);
        Checks.due("haul 9", x.byCatch(9, 7, 1), 1);
    }

    // Promise 17

    private static void dueShare(Counted x, int haul, int kind, long above, long below) {
        Checks.due("above of " + haul + ", " + kind, x.byCatch(haul, kind, 0), above);
        Checks.due("below of " + haul + ", " + kind, x.byCatch(haul, kind, 1), below);
    }

    private static void byCatch() {
        Counted x = new Counted();
        x.haul(3, 0, 6);
        x.haul(3, 1, 10);
        x.haul(3, 0, 8);
        dueShare(x, 3, 0, 7, 12);
        dueShare(x, 3, 1, 5, 12);
        dueShare(x, 3, 7, 0, 1);
        dueShare(x, 4, 0, NONE, NONE);
        dueShare(x, 10, 0, NONE, NONE);
        dueShare(x, 3, 8, NONE, NONE);
        Checks.due("part 2", x.byCatch(3, 0, 2), NONE);
        for (int far : FAR) {
            dueShare(x, far, 0, NONE, NONE);
            dueShare(x, 3, far, NONE, NONE);
            Checks.due("far part", x.byCatch(3, 0, far), NONE);
        }
        x.haul(4, 0, 5);
        dueShare(x, 3, 0, 7, 12);
        x.haul(0, 0, 3);
        x.haul(0, 7, 6);
        dueShare(x, 0, 0, 1, 3);
        dueShare(x, 0, 7, 2, 3);
        x.haul(5, 7, 1000000000L);
        dueShare(x, 5, 7, 1, 1);
        for (int i = 0; i < 400; i++) {
            x.haul(6, i % 8, 1000000000L);
        }
        x.haul(6, 0, 1);
        dueShare(x, 6, 0, 7142857143L, 57142857143L);
        x.haul(7, 0, 832040);
        x.haul(7, 1, 1346269);
        dueShare(x, 7, 1, 1346269, 2178309);
    }
}
