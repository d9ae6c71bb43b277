import java.util.Arrays;
import java.util.HashSet;
import java.util.List;
import java.util.Set;

/**
 * Each sentence of the document that names a boundary: the last that is taken and the first that is
 * not. The comments are the document's sentences. All runs stay within 512 calls but the one of a
 * full tape, which can't.
 */
public final class BoundariesTest {
    private static final int NONE = LicenceTexts.NONE;
    private static final int REFUSED = LicenceTexts.REFUSED;
    private static final int THROWS = Counted.THROWS;
    private static final int LEAST = Integer.MIN_VALUE;
    private static final int MOST = Integer.MAX_VALUE;
    private static final long TURN = 1L << 32;

    public static void main(String[] args) {
        calls();
        wordsAndBytes();
        numbers();
        tablesOfAText();
        rulesOfAText();
        conditions();
        manyConditions();
        atomsInOthers();
        deepestSums();
        factNames();
        tableNames();
        placesOfAllTables();
        nextWords();
        earlyEnds();
        wrongTextsLeaveNothing();
        editionDays();
        editionCount();
        factValues();
        valuesGoRound();
        towardsZero();
        relations();
        order();
        byZero();
        places();
        untold();
        outcomes();
        newObject();
        fullTape();
        lowestBits();
        tapeAfterRead();
        clearFacts();
        runAnswers();
        walk();
        broken();
        open();
        explain();
        table();
        allowed();
        write();
        written();
        haul();
        byCatch();
        Checks.end();
    }

    private static void dueRead(String text, int want) {
        Counted x = new Counted();
        Checks.due("read of '" + text + "'", x.readText(0, text), want);
        Checks.due("editions after '" + text + "'", x.editions(), want < 0 ? 0 : 1);
    }

    /** The text with one word more, which is the first WRONG one, whatever stands behind it. */
    private static void dueWrong(String before, String word, String behind) {
        int number = wordCount(before);
        dueRead(before + " " + word, -1 - number);
        dueRead(before + " " + word + " " + behind, -1 - number);
    }

    private static int wordCount(String text) {
        return text.isBlank() ? 0 : text.trim().split("[ \n]+").length;
    }

    private static String times(String s, int n) {
        return s.repeat(n);
    }

    // "An object is used for at most 512 calls after it has been made"

    private static void calls() {
        Counted text = new Counted();
        text.feed(times("rule 1 = 1 ; ", 11) + "rule " + times("1 + ", 88) + "1 = 88");
        Checks.due("calls left", text.callsLeft(), 512 - 143 - 5 - 352 - 6);
        text.feed(" ;  ");
        Checks.due("the last calls: read", text.read(0), 12);
        Checks.due("the 512th call: run", text.run(0), 12);
        Checks.due("none is left", text.callsLeft(), 0);

        Counted tape = new Counted();
        tape.feed(times("x ", 255) + "x");
        Checks.due("the 512th call: read", tape.read(0), -1);

        Counted words = new Counted();
        words.feed("rule 1 1 " + times("x ", 251));
        Checks.due("a long tape's WRONG word", words.read(0), -1 - 2);

        Counted last = new Counted();
        last.feed("rule" + times("\n1\n+", 126) + "\n+");
        Checks.due("the last word is WRONG", last.read(0), -1 - 253);

        Counted hauls = new Counted();
        for (int i = 0; i < 511; i++) {
            Checks.due("haul", hauls.haul(9, i == 0 ? 7 : 0, 1000000000L), true);
        }
        Checks.due("the 512th call: byCatch", hauls.byCatch(9, 7, 1), 511);

        Counted wrong = new Counted();
        for (int i = 0; i < 256; i++) {
            wrong.unit('x');
            Checks.due("a wrong text each time", wrong.read(100000), -1);
        }

        Counted empty = new Counted();
        for (int i = 0; i < 512; i++) {
            Checks.due("read of nothing", empty.read(i), i < 6 ? 0 : REFUSED);
        }

        Counted tried = Counted.with("rule fact 1 = 3 ;");
        while (tried.callsLeft() > 1) {
            Checks.due("allowed each time", tried.allowed(0, 1, 20), 3);
        }
        Checks.due("the 512th call: run", tried.run(0), -1);
    }

    // "WORDS are its rows of other bytes than 32 and 10, as long as they can be, numbered from 0 on."

    private static void wordsAndBytes() {
        for (int b = 0; b < 256; b++) {
            boolean between = b == 32 || b == 10;
            Counted x = new Counted();
            x.feed("rule");
            x.unit(b);
            Checks.due("byte " + b + " between words", x.readText(0, "1 = 1 ;"), between ? 1 : -1);
            Counted y = new Counted();
            y.unit(b);
            Checks.due("byte " + b + " alone", y.read(0), between ? 0 : -1);
            Counted z = new Counted();
            z.feed("rule 1 = 1 ;");
            z.unit(b);
            Checks.due("byte " + b + " at the end", z.read(0), between ? 1 : -5);
        }
        dueRead("  \n \n\nrule\n\n1 \n =  1\n;\n \n", 1);
        dueRead("rule 1 = 1 ; rule", -1 - 6);
        dueRead("rulerule 1 = 1 ;", -1);
        dueRead("rul e 1 = 1 ;", -1);
        dueRead("rule 1 = 1 ; x", -1 - 5);
        Counted x = Counted.with(" rule 1 = 2 ;");
        x.run(0);
        Checks.due("words from 0 on", x.broken(0, 1), 0);
    }

    // "A NUMBER is a word of 1 to 9 digits."

    private static void numbers() {
        for (String taken : new String[] {"0", "9", "00", "12345678", "123456789", "999999999", "000000000",
            "000000001"}) {
            long value = Long.parseLong(taken);
            Checks.due("number " + taken, Counted.with("table " + taken + " ;").table(0, 0, 0), value);
            Counted x = Counted.with("rule fact 0 = " + taken + " ;");
            x.fact(0, value);
            Checks.due("rule with " + taken, x.run(0), 0);
            x.fact(0, value + 1);
            Checks.due("rule with " + taken + " and one more", x.run(0), 1);
        }
        for (String not : new String[] {"1234567890", "0000000000", "0000000001", "1000000000", "4294967296",
            "99999999999999999999", "-1", "+1", "1.", "1x", "x1", "1/", "/1", "1:", ":", "/", "\u00b2", "\u00b9", "0x1",
            "1-", "1\t", "1\r", "1;"}) {
            dueWrong("table", not, ";");
            dueWrong("table 1", not, ";");
            dueWrong("rule", not, "= 1 ;");
            dueWrong("rule 1 =", not, ";");
            dueWrong("rule fact", not, "= 1 ;");
            dueWrong("table 1 ; rule at", not, "0 = 1 ;");
            dueWrong("table 1 ; rule at 0", not, "= 1 ;");
        }
        for (int b = 33; b < 256; b++) {
            boolean digit = b >= '0' && b <= '9';
            Counted x = new Counted();
            x.feed("table 1");
            x.unit(b);
            Checks.due("byte " + b + " as a digit", x.readText(0, "2 ;"), digit ? 0 : -2);
        }
    }

    // "table NUMBERS ;  (1 to 10 of them; at most 8 tables, numbered from 0 on)"

    private static void tablesOfAText() {
        dueWrong("table", ";", "table 1 ;");
        dueRead("table 1 ;", 0);
        dueRead("table" + times(" 7", 9) + " ;", 0);
        dueRead("table" + times(" 7", 10) + " ;", 0);
        dueWrong("table" + times(" 7", 10), "7", ";");
        dueWrong("table 1 ; table" + times(" 7", 10), "7", ";");
        dueRead("table" + times(" 7", 10), -1 - 11);
        dueRead(times("table 1 ; ", 7), 0);
        dueRead(times("table 1 ; ", 8), 0);
        dueWrong(times("table 1 ; ", 8), "table", "1 ;");
        dueWrong(times("table 1 ; rule 1 = 1 ; ", 8), "table", "1 ;");
        dueRead(times("table 1 ; ", 8) + "rule 1 = 1 ;", 1);
        dueRead(times("table 1 ; rule 1 = 1 ; ", 8) + times("rule 1 = 1 ; ", 4), 12);

        StringBuilder all = new StringBuilder();
        for (int t = 0; t < 8; t++) {
            all.append("table");
            for (int k = 0; k < 10; k++) {
                all.append(" ").append(t * 10 + k);
            }
            all.append(" ; ");
        }
        Counted x = Counted.with(all.toString());
        for (int t = -1; t < 9; t++) {
            for (int k = -1; k < 11; k++) {
                boolean there = t >= 0 && t < 8 && k >= 0 && k < 10;
                Checks.due("table " + t + ", " + k, x.table(0, t, k), there ? t * 10 + k : THROWS);
            }
        }
        // How many there may be is told of one text, not of all.
        Counted two = Counted.with(times("table 1 ; ", 8));
        Checks.due("8 tables again", two.readText(1, times("table 2 ; ", 8)), 0);
        Checks.due("the first one's last", two.table(0, 7, 0), 1);
        Checks.due("the second one's last", two.table(1, 7, 0), 2);
    }

    // "(both are RULES, at most 12, numbered from 0 on)"

    private static void rulesOfAText() {
        String rule = "rule 1 = 1 ; ";
        String when = "when 1 = 1 need 1 = 1 ; ";
        for (int n = 0; n <= 12; n++) {
            dueRead(times(rule, n), n);
            dueRead(times(when, n), n);
            dueRead(times(when, 12 - n) + times(rule, n), 12);
            dueWrong(times(when, 12 - n) + times(rule, n), "rule", "1 = 1 ;");
            dueWrong(times(when, 12 - n) + times(rule, n), "when", "1 = 1 need 1 = 1 ;");
        }
        dueRead(times(rule, 12) + "table 1 ;", 12);
        dueWrong(times(rule, 12) + "table 1 ;", "rule", "1 = 1 ;");
        dueWrong(times(rule, 12), "x", "");

        Counted x = Counted.with(times("rule 1 = 1 ; ", 11) + "rule 1 = 2 ;");
        Checks.due("rule 11 is broken", x.run(0), 12);
        Checks.due("rule 11", x.broken(0, 0), 11);
        Checks.due("its word", x.broken(0, 1), 55);
        Checks.due("explain(11)", x.explain(11), 1);
        Checks.due("explain(12)", x.explain(12), NONE);
        Checks.due("12 rules again", x.readText(1, times("rule 1 = 2 ; ", 12)), 12);
        Checks.due("run of them", x.run(1), 1);
        Checks.due("the last of them", x.broken(11, 0), 11);
        Checks.due("no 13th", x.broken(12, 0), NONE);
    }

    // "CONDITIONS are some, with and between; a CONDITION: SUM RELATION SUM"

    private static void conditions() {
        dueWrong("rule", ";", "");
        dueWrong("when", "need", "1 = 1 ;");
        dueWrong("when 1 = 1 need", ";", "");
        dueRead("rule 1 = 1 ;", 1);
        dueRead("rule 1 = 1" + times(" and 1 = 1", 40) + " ;", 1);
        dueRead("when 1 = 1" + times(" and 1 = 1", 20) + " need 1 = 1" + times(" and 1 = 1", 20) + " ;", 1);
        dueWrong("rule", "and", "1 = 1 ;");
        dueWrong("rule 1 = 1 and", "and", "1 = 1 ;");
        dueWrong("rule 1 = 1 and", ";", "");
        dueWrong("when 1 = 1 and", "need", "1 = 1 ;");
        dueWrong("rule 1", "and", "1 = 1 ;");
        dueWrong("rule 1", ";", "");
        dueWrong("rule 1 = 1", "=", "1 ;");
        dueWrong("rule 1 = 1 and 1 = 1", "<=", "1 ;");
        dueWrong("rule 1 = 1", "need", "1 = 1 ;");
        dueWrong("when 1 = 1", ";", "");
        dueWrong("when 1 = 1 need 1 = 1", "need", "1 = 1 ;");
        dueWrong("rule 1 = 1 ;", ";", "");
        dueWrong("rule", "(1", ") = 1 ;");
        dueWrong("rule ( 1", "1)", "= 1 ;");
        dueWrong("rule (", ")", "= 1 ;");
    }

    /** Each CONDITION of a long rule counts, and none behind the first that does not hold. */
    private static void manyConditions() {
        int count = 18;
        for (int at = 0; at < count; at++) {
            String held = times("1 = 1 and ", at);
            String rest = times(" and 1 / 0 = 1", count - at);
            String all = times(" and 1 = 1", count - at);
            dueOutcome("rule " + held + "1 = 2" + rest + " ;", 1);
            dueOutcome("rule " + held + "1 = 2" + all + " ;", 1);
            dueOpen("rule " + held + "fact 9 = 2" + rest + " ;", 3, 9);
            dueOutcome("when " + held + "1 = 2" + rest + " need 1 / 0 = 1 ;", 3);
            dueOpen("when " + held + "fact 9 = 2" + all + " need 1 = 1 ;", 3, 9);
            dueOutcome("when 1 = 1 need " + held + "1 = 2" + rest + " ;", 1);
            dueOpen("when 1 = 1 need " + held + "fact 9 = 2" + all + " ;", 3, 9);
        }
        dueOutcome("rule 1 = 1" + times(" and 1 = 1", 40) + " ;", 0);
        dueOutcome("when 1 = 1" + times(" and 1 = 1", 20) + " need 1 = 1" + times(" and 1 = 1", 20) + " ;", 0);
    }

    // "An ATOM may lie in at most 12 others."

    private static void atomsInOthers() {
        String[] lefts = {"rule ", "rule 1 = ", "rule 1 = 1 and ", "when ", "when 1 = 1 need ", "when 1 = 1 need 1 <= ",
            "rule 1 + ", "rule 2 * ", "rule ( ( 1 ) ) + ", "rule at 0 ( at 0 0 ) - "};
        for (String left : lefts) {
            String text = "table 0 ; " + left;
            for (int brackets = 0; brackets <= 12; brackets++) {
                String around = times("( ", brackets) + times("at 0 ", 12 - brackets);
                for (String atom : new String[] {"0", "fact 0", "fact 19"}) {
                    dueTakenAtom(text, around, atom, brackets);
                }
                dueWrong(text + around + "at 0", "0", "");
                dueWrong(text + around + "at 0", "fact", "0");
                dueWrong(text + around + "at 0", "at", "0 0");
                dueWrong(text + around + "at 0", "(", "0 )");
                dueWrong(text + around + "(", "0", ")");
                dueWrong(text + around + "(", "fact", "0 )");
                dueWrong(text + around + "(", "at", "0 0 )");
                dueWrong(text + around + "(", "(", "0 ) )");
                dueWrong(text + around + "(", ")", "");
                // The places end with their ATOM: behind an operator only the brackets lie around.
                String behind = text + around + "0 + " + times("at 0 ", 12 - brackets);
                dueRead(behind + "0", -1 - wordCount(behind + "0"));
                dueWrong(behind + "at 0", "0", "");
            }
        }
        dueRead("rule " + times("( ", 12) + "1 + ( 1", -1 - 16);
        dueRead("rule " + times("( ", 12) + "1" + times(" )", 12) + " + " + times("( ", 12) + "1" + times(" )", 12)
            + " = 2 ;", 1);
        dueRead("rule " + times("( ", 11) + "( 1 ) + ( 2 ) * ( 3 )" + times(" )", 11) + " = 7 ;", 1);
        dueRead("rule " + times("( ", 11) + "( 1 ) + ( 2 ) * ( 3", -1 - 22);
        dueWrong("rule " + times("( ", 11) + "( 1 ) + ( 2 ) * ( (", "3", ")");
    }

    /** As many values as can be wait at once: a SUM and a TERM begun in each bracket, on both sides. */
    private static void deepestSums() {
        for (int brackets = 0; brackets <= 12; brackets++) {
            long value = 1 + 2 * 3;
            for (int i = 0; i < brackets; i++) {
                value = 1 + 2 * value;
            }
            String sum = times("1 + 2 * ( ", brackets) + "1 + 2 * 3" + times(" )", brackets);
            dueOutcome("rule fact 0 = " + sum + " ;", 0, value);
            dueOutcome("rule fact 0 = " + sum + " ;", 1, value + 1);
            dueOutcome("rule " + sum + " = fact 0 ;", 0, value);
            dueOutcome("rule " + sum + " = " + sum + " ;", 0);
            dueOutcome("rule " + sum + " < " + sum + " ;", 1);
            // A place in each bracket: the table has at every place the next one.
            String place = "table 1 2 3 4 5 6 7 8 9 0 ; rule " + times("at 0 ", brackets) + "fact 0 = fact 1 ;";
            for (int first = 0; first < 10; first++) {
                dueOutcome(place, 0, first, (first + brackets) % 10);
                dueOutcome(place, 1, first, (first + brackets + 1) % 10);
            }
        }
    }

    private static void dueTakenAtom(String text, String around, String atom, int brackets) {
        Counted x = new Counted();
        // The line that is cut shows that the ATOM has been taken: the text ends too early behind it.
        String taken = text + around + atom;
        Checks.due("'" + taken + "' is taken", x.readText(0, taken), -1 - wordCount(taken));
        String closed = taken + times(" )", brackets);
        Checks.due("'" + closed + "' is taken", x.readText(0, closed), -1 - wordCount(closed));
        Checks.due("one bracket too many", x.readText(0, closed + " ) +"), -1 - wordCount(closed));
    }

    // "fact N, a fact 0 .. 19"; "WRONG .. also N or T that is not 0 .. 19"

    private static void factNames() {
        for (int name = 0; name < 20; name++) {
            dueRead("rule fact " + name + " = 1 ;", 1);
            Counted x = Counted.with("rule fact " + name + " = 1 ;");
            x.run(0);
            Checks.due("it is fact " + name, x.open(0, 2), name);
        }
        dueRead("rule 1 = fact 000000019 ;", 1);
        for (String not : new String[] {"20", "21", "100", "999999999", "000000020", "-1", "fact", "(", ";", "256"}) {
            dueWrong("rule fact", not, "= 1 ;");
            dueWrong("rule 1 = fact", not, ";");
        }
        dueRead("rule fact", -1 - 2);
    }

    // "at T ATOM, that place of table T"; "or no table that stands before"

    private static void tableNames() {
        for (int tables = 0; tables <= 8; tables++) {
            String before = times("table 5 ; ", tables) + "rule at";
            for (int t = 0; t < tables; t++) {
                dueRead(before + " " + t + " 0 = 5 ;", 1);
            }
            for (int t : new int[] {tables, tables + 1, 19, 20, 999999999}) {
                dueWrong(before, String.valueOf(t), "0 = 5 ;");
            }
        }
        dueWrong("rule at", "0", "0 = 5 ; table 5 ;");
        dueWrong("table 5 ; rule 1 = at", "1", "0 ; table 5 ;");
        dueRead("table 5 ; rule at 0 0 = 5 ; table 6 ; rule at 1 0 = 6 ;", 2);
        // The tables of another edition do not stand before.
        Counted x = Counted.with("table 5 ;");
        Checks.due("a table of the edition before", x.readText(1, "rule at 0 0 = 5 ;"), -1 - 2);
        Checks.due("nor one of a wrong text", x.readText(1, "table 5 ; x"), -1 - 3);
        Checks.due("a wrong text's table", x.readText(1, "rule at 0 0 = 5 ;"), -1 - 2);
    }

    /** at T finds table T, whatever stands behind the rule. */
    private static void placesOfAllTables() {
        for (int tables = 1; tables <= 8; tables++) {
            StringBuilder text = new StringBuilder();
            for (int t = 0; t < tables; t++) {
                text.append("table ").append(10 + t).append(" ").append(20 + t).append(" ; ");
                text.append("rule at ").append(t).append(" fact 0 = fact 1 + ").append(t).append(" ; ");
            }
            Counted x = Counted.with(text.toString());
            for (int place = 0; place < 2; place++) {
                x.fact(0, place);
                x.fact(1, 10 + place * 10);
                Checks.due(tables + " tables, place " + place, x.run(0), 0);
                x.fact(1, 11 + place * 10);
                Checks.due(tables + " tables, not place " + place, x.run(0), 1);
                Checks.due("the last one too", x.broken(tables - 1, 0), tables - 1);
            }
            x.fact(0, 2);
            x.run(0);
            Checks.due("no third place", x.open(tables - 1, 1), 2);
        }
    }

    // "WRONG is the first word with which no text goes on"

    private static final String[] WORDS = {"table", "rule", "when", "need", "and", ";", "(", ")", "fact", "at", "+",
        "-", "*", "/", "%", "<", "<=", "=", "/=", ">", ">=", "==", "=<", "!=", "<>", "=/", "0", "1", "19", "20",
        "999999999", "1234567890", "x", "Table", "RULE", "wheN", "tabl", "rules", "whe", "nee", "an", "andd", "fac",
        "facts", "a", "att", ";;", "((", "))", "()", "++", "--", "**", "//", "%%", "<<", "&", "in", "not", "or", "-1",
        "^", "rule;", ";rule", "1=1", "!"};

    private static void nextWords() {
        String numbers = "0 1 19 20 999999999";
        String atoms = numbers + " ( fact at";
        String operators = "+ - * / %";
        String relations = "< <= = /=";
        String items = "table rule when";
        dueNext("", items);
        dueNext("table 1 ;", items);
        dueNext("rule 1 = 1 ;", items);
        dueNext("when 1 = 1 need 1 = 1 ;", items);
        dueNext("table", numbers);
        dueNext("table 1", numbers + " ;");
        dueNext("table 1 2 3 4 5 6 7 8 9", numbers + " ;");
        dueNext("table 1 2 3 4 5 6 7 8 9 10", ";");
        for (String before : new String[] {"rule", "when", "rule 1 =", "rule 1 /=", "rule 1 <", "rule 1 <=", "rule 1 +",
            "rule 1 -", "rule 1 *", "rule 1 /", "rule 1 %", "rule 1 = 1 and", "rule 1 = 1 +", "when 1 = 1 and",
            "when 1 = 1 need", "when 1 = 1 need 1 =", "when 1 = 1 need 1 = 1 and", "rule (", "rule ( 1 +", "rule ( (",
            "table 1 ; rule at 0", "table 1 ; rule at 0 at 0", "table 1 ; rule at 0 (", "rule " + times("( ", 12)}) {
            dueNext(before, atoms);
        }
        dueNext("rule " + times("( ", 13), "");
        dueNext("rule fact", "0 1 19");
        dueNext("rule at", "");
        dueNext("table 1 ; rule at", "0");
        dueNext("table 1 ; table 1 ; rule at", "0 1");
        for (String before : new String[] {"rule 1", "when 1", "rule fact 1", "rule ( 1 )", "rule 1 + 1", "rule 1 * 1",
            "table 1 ; rule at 0 1", "table 1 ; rule at 0 ( 1 )", "when 1 = 1 need 1", "rule 1 = 1 and 1",
            "when 1 = 1 and 1", "when 1 = 1 need 1 = 1 and 1"}) {
            dueNext(before, operators + " " + relations);
        }
        for (String before : new String[] {"rule 1 = 1", "rule 1 < fact 0", "rule 1 <= ( 1 )", "rule 1 /= 1 + 1",
            "rule 1 = 1 and 1 = 1", "when 1 = 1 need 1 = 1", "when 1 = 1 need 1 = 1 and 1 = 1"}) {
            dueNext(before, operators + " and ;");
        }
        for (String before : new String[] {"when 1 = 1", "when 1 = 1 and 1 = 1", "when 1 = ( 1 )"}) {
            dueNext(before, operators + " and need");
        }
        for (String before : new String[] {"rule ( 1", "rule ( ( 1 )", "rule 1 = ( 1", "rule ( 1 + 1",
            "rule ( ( 1 ) * 2", "table 1 ; rule at 0 ( 1", "table 1 ; rule ( at 0 1", "when ( 1",
            "when 1 = 1 need ( 1"}) {
            dueNext(before, operators + " )");
        }
    }

    private static void dueNext(String before, String allowed) {
        Set<String> taken = new HashSet<>(Arrays.asList(allowed.split(" ")));
        for (String word : WORDS) {
            String text = before + " " + word;
            Counted x = new Counted();
            int got = x.readText(0, text);
            boolean isTaken = got >= 0 || got == -1 - wordCount(text);
            Checks.due("'" + text + "' goes on", isTaken, taken.contains(word));
            if (!taken.contains(word)) {
                Checks.due("'" + text + "'", got, -1 - wordCount(before));
            }
        }
    }

    // "when the text ends too early, as many as there are."

    private static void earlyEnds() {
        String all = "table 1 2 ; rule ( fact 3 + 4 ) * at 0 1 <= 5 and 6 /= 7 ; "
            + "when 1 < 2 and 3 = 4 need 5 - 6 % 7 / 8 = fact 19 ; table 3 ; rule at 1 ( 2 ) = 1 ;";
        List<String> words = Arrays.asList(all.split(" "));
        int rules = 0;
        boolean inTable = false;
        for (int n = 0; n <= words.size(); n++) {
            String last = n == 0 ? ";" : words.get(n - 1);
            inTable = last.equals("table") || inTable && !last.equals("rule") && !last.equals("when");
            rules += n > 0 && last.equals(";") && !inTable ? 1 : 0;
            dueRead(String.join(" ", words.subList(0, n)), last.equals(";") ? rules : -1 - n);
            dueRead(String.join("\n", words.subList(0, n)) + " \n", last.equals(";") ? rules : -1 - n);
        }
    }

    /** "there is none then": nothing of a wrong text is met again in the next one. */
    private static void wrongTextsLeaveNothing() {
        String cut = "table 7 ; when 1 + 2 * ( at 0 ( 3 - 4 % fact 1 ) + 5 ) <= 6 - 7 and 8 * 9 /= 1 "
            + "need 1 + 2 * 3 = 4 - ( 5 + at 0 0 ) ; rule 1 - 2";
        List<String> words = Arrays.asList(cut.split(" "));
        for (int n = 1; n < words.size(); n++) {
            Counted x = new Counted();
            x.feed(String.join(" ", words.subList(0, n)));
            Checks.due("cut behind word " + n, x.readText(3, " x"), -1 - n);
            x.fact(0, 9);
            Checks.due("tables", x.readText(3, "rule at 0 0 = 1 ;"), -1 - 2);
            Checks.due("the text behind it", x.readText(3, "rule fact 0 - 2 * 3 = 3 ; table 5 6 ; "
                + "when at 0 1 < 7 need ( 1 + 2 ) * 3 = fact 0 and 1 = 2 ;"), 2);
            Checks.due("its rules", x.run(3), 2);
            Checks.due("its first rule", x.explain(0), 0);
            Checks.due("its second rule", x.explain(1), 1);
            Checks.due("its second rule's word", x.broken(0, 1), 14);
            Checks.due("no third rule", x.explain(2), NONE);
            Checks.due("its table", x.table(3, 0, 1), 6);
            Checks.due("no more of it", x.table(3, 0, 2), THROWS);
            Checks.due("no second table", x.table(3, 1, 0), THROWS);
        }
        // The wrong text has more tables and rules than the one that comes behind it.
        for (int left = 0; left <= 3; left++) {
            Counted x = new Counted();
            String wrong = times("table 1 2 3 ; ", 4) + times("rule 1 = 2 ; ", 4) + "x";
            Checks.due("a wrong text", x.readText(0, wrong), -1 - 40);
            Checks.due("the right one", x.readText(0, times("table 4 ; ", left) + times("rule 1 = 1 ; ", left)), left);
            Checks.due("its rules", x.run(0), 0);
            for (int k = 0; k < 5; k++) {
                Checks.due("explain(" + k + ")", x.explain(k), k < left ? 0 : NONE);
                Checks.due("write(" + k + ")", x.write(0, k), k < left ? 10 : NONE);
                Checks.due("table(" + k + ")", x.table(0, k, 0), k < left ? 4 : THROWS);
                Checks.due("table(" + k + "), its second", x.table(0, k, 1), THROWS);
            }
            Checks.due("a table of the wrong text", x.readText(1, times("table 4 ; ", left) + "rule at " + left
                + " 0 = 1 ;"), -1 - left * 3 - 2);
        }
    }

    // "EDITIONS are texts, at most 6, each from a day on (0 .. 100000) until the next one's; before the
    // first one there are no rules and tables."

    private static void editionDays() {
        for (int not : new int[] {-1, -100000, LEAST, 100001, 1000000, MOST}) {
            Checks.due("read(" + not + ")", new Counted().read(not), REFUSED);
        }
        for (int day : new int[] {0, 1, 99999, 100000}) {
            Checks.due("read(" + day + ")", new Counted().read(day), 0);
        }
        int[] days = {0, 1, 2, 50, 99999, 100000};
        for (int before : days) {
            for (int day : new int[] {-1, 0, 1, 2, 3, 49, 50, 51, 99998, 99999, 100000, 100001}) {
                Counted x = new Counted();
                x.read(before);
                boolean taken = day > before && day <= 100000;
                Checks.due("read(" + before + ") and read(" + day + ")", x.read(day), taken ? 0 : REFUSED);
                Checks.due("editions then", x.editions(), taken ? 2 : 1);
            }
        }
        // Above the edition before, not above the first one alone.
        Counted y = new Counted();
        y.read(10);
        y.read(20);
        Checks.due("between the two", y.read(15), REFUSED);
        Checks.due("a wrong text is no edition before", y.readText(30, "x"), -1);
        Checks.due("the day of a wrong text", y.read(30), 0);

        Counted x = new Counted();
        for (int i = 0; i < 6; i++) {
            Checks.due("an edition", x.readText(i * 20000, "table " + i + " ; rule fact 0 = " + i + " ;"), 1);
        }
        for (int i = 0; i < 6; i++) {
            x.fact(0, i);
            int first = i * 20000;
            int last = i < 5 ? first + 19999 : MOST;
            for (int day : new int[] {first - 1, first, first + 1, last - 1, last}) {
                int on = day < 0 ? -1 : Math.min(5, day / 20000);
                Checks.due("run(" + day + ")", x.run(day), on < 0 || on == i ? 0 : 1);
                Checks.due("walk(" + day + ")", x.walk(day), on < 0 || on == i ? 0 : 1);
                Checks.due("table(" + day + ")", x.table(day, 0, 0), on < 0 ? THROWS : on);
                Checks.due("allowed(" + day + ")", x.allowed(day, 0, 20), on < 0 ? 20 : on);
                Checks.due("write(" + day + ")", x.write(day, 0), on < 0 ? NONE : 15);
            }
        }
        Counted late = new Counted();
        late.readText(100000, "table 4 ; rule 1 = 2 ;");
        Checks.due("the day before the last", late.run(99999), 0);
        Checks.due("the last day", late.run(100000), 1);
        Checks.due("behind it", late.run(100001), 1);
        Checks.due("no rule before the first", late.write(99999, 0), NONE);
        Checks.due("no table before the first", late.table(99999, 0, 0), THROWS);
        Checks.due("nothing before the first forbids", late.allowed(99999, 0, 20), 20);
        Checks.due("the first forbids", late.allowed(100000, 0, 20), NONE);
    }

    private static void editionCount() {
        Counted x = new Counted();
        for (int i = 0; i < 6; i++) {
            Checks.due("editions", x.editions(), i);
            Checks.due("a wrong text", x.readText(i, "x"), -1);
            Checks.due("editions still", x.editions(), i);
            Checks.due("edition " + i, x.readText(i, times("rule 1 = 1 ; ", i)), i);
        }
        Checks.due("six", x.editions(), 6);
        for (int day : new int[] {6, 100000, 5, 0, -1}) {
            Checks.due("a seventh", x.read(day), REFUSED);
        }
        x.feed("x");
        Checks.due("a seventh that is wrong", x.read(6), REFUSED);
        Checks.due("six still", x.editions(), 6);
    }

    // "FACTS are 0 .. 19: longs, that are told or not."

    private static void factValues() {
        long[] values = {0, 1, -1, MOST, LEAST, MOST + 1L, LEAST - 1L, TURN, -TURN, Long.MAX_VALUE, Long.MIN_VALUE};
        for (int name : new int[] {0, 1, 18, 19}) {
            Counted x = Counted.with("rule fact " + name + " = fact " + (name + 7) % 20 + " ;");
            for (long a : values) {
                for (long b : values) {
                    if (x.callsLeft() < 3) {
                        continue;
                    }
                    Checks.due("fact " + name, x.fact(name, a), true);
                    Checks.due("its other", x.fact((name + 7) % 20, b), true);
                    Checks.due(a + " = " + b, x.run(0), a == b ? 0 : 1);
                }
            }
        }
        Counted y = new Counted();
        for (int name : new int[] {-1, -2, 20, 21, 32, LEAST, MOST}) {
            Checks.due("fact " + name, y.fact(name, 1), false);
        }
        for (int name = 0; name < 20; name++) {
            Checks.due("fact " + name, y.fact(name, 1), true);
        }
        Checks.due("told", y.clearFacts(), 20);
    }

    /** The outcome of one rule over facts 0, 1, .. with these values. */
    private static int judged(String text, long... facts) {
        Counted x = Counted.with(text);
        for (int name = 0; name < facts.length; name++) {
            x.fact(name, facts[name]);
        }
        x.run(0);
        return x.explain(0);
    }

    private static void dueValue(long left, String operator, long right, long want) {
        String shown = left + " " + operator + " " + right;
        Checks.due(shown, judged("rule fact 0 " + operator + " fact 1 = fact 2 ;", left, right, want), 0);
        Checks.due(shown + " is not the next", judged("rule fact 0 " + operator + " fact 1 = fact 2 ;", left, right,
            want + 1), 1);
    }

    // "VALUES are longs that go round"

    private static void valuesGoRound() {
        long max = Long.MAX_VALUE;
        long min = Long.MIN_VALUE;
        dueValue(max, "+", 0, max);
        dueValue(max, "+", 1, min);
        dueValue(max - 1, "+", 1, max);
        dueValue(max, "+", max, -2);
        dueValue(min, "+", min, 0);
        dueValue(min, "+", -1, max);
        dueValue(min, "-", 0, min);
        dueValue(min, "-", 1, max);
        dueValue(min + 1, "-", 1, min);
        dueValue(0, "-", min, min);
        dueValue(max, "-", -1, min);
        dueValue(max, "*", 1, max);
        dueValue(max, "*", 2, -2);
        dueValue(max, "*", -1, min + 1);
        dueValue(min, "*", -1, min);
        dueValue(max, "*", max, 1);
        dueValue(min, "*", 2, 0);
        dueValue(TURN, "*", TURN, 0);
        dueValue(TURN, "*", TURN / 2, min);
        dueValue(3037000499L, "*", 3037000499L, 9223372030926249001L);
        dueValue(3037000500L, "*", 3037000500L, -9223372036709301616L);
        dueValue(max, "/", -1, min + 1);
        dueValue(min, "/", -1, min);
        dueValue(min, "/", 1, min);
        dueValue(min, "%", -1, 0);
        dueValue(MOST, "+", 1, MOST + 1L);
        dueValue(LEAST, "-", 1, LEAST - 1L);
        dueValue(MOST, "*", MOST, 4611686014132420609L);
        Checks.due("numbers go on beyond int", judged("rule 999999999 * 999999999 = fact 0 ;", 999999998000000001L), 0);
        Checks.due("sums of numbers too", judged("rule 999999999 + 999999999 + 999999999 = fact 0 ;", 2999999997L), 0);
        Checks.due("numbers go round", judged("rule 999999999 * 999999999 * 999999999 = fact 0 ;",
            999999999L * 999999999L * 999999999L), 0);
        Checks.due("what went round is compared", judged("rule fact 0 + 1 < fact 0 ;", max), 0);
    }

    // "/ and % as in the language (towards 0, with the sign of the left one)"

    private static void towardsZero() {
        dueValue(7, "/", 2, 3);
        dueValue(-7, "/", 2, -3);
        dueValue(7, "/", -2, -3);
        dueValue(-7, "/", -2, 3);
        dueValue(7, "%", 2, 1);
        dueValue(-7, "%", 2, -1);
        dueValue(7, "%", -2, 1);
        dueValue(-7, "%", -2, -1);
        dueValue(6, "/", 7, 0);
        dueValue(7, "/", 7, 1);
        dueValue(8, "/", 7, 1);
        dueValue(-6, "/", 7, 0);
        dueValue(-7, "/", 7, -1);
        dueValue(6, "%", 7, 6);
        dueValue(7, "%", 7, 0);
        dueValue(-8, "%", 7, -1);
        dueValue(-1, "/", Long.MAX_VALUE, 0);
        dueValue(-1, "%", Long.MAX_VALUE, -1);
        dueValue(Long.MIN_VALUE, "%", Long.MAX_VALUE, -1);
        dueValue(Long.MIN_VALUE, "/", Long.MAX_VALUE, -1);
        dueValue(0, "/", 5, 0);
        dueValue(0, "%", -5, 0);
    }

    // "a RELATION being < or <= or = or /="

    private static void relations() {
        long[] values = {Long.MIN_VALUE, Long.MIN_VALUE + 1, -TURN, -1, 0, 1, TURN, Long.MAX_VALUE - 1, Long.MAX_VALUE};
        for (long a : values) {
            for (long b : values) {
                Checks.due(a + " < " + b, judged("rule fact 0 < fact 1 ;", a, b), a < b ? 0 : 1);
                Checks.due(a + " <= " + b, judged("rule fact 0 <= fact 1 ;", a, b), a <= b ? 0 : 1);
                Checks.due(a + " = " + b, judged("rule fact 0 = fact 1 ;", a, b), a == b ? 0 : 1);
                Checks.due(a + " /= " + b, judged("rule fact 0 /= fact 1 ;", a, b), a != b ? 0 : 1);
            }
        }
    }

    private static void dueOutcome(String text, int want, long... facts) {
        Checks.due("explain of '" + text + "'", judged(text, facts), want);
    }

    private static void dueOpen(String text, int reason, int untold, long... facts) {
        Counted x = Counted.with(text);
        for (int name = 0; name < facts.length; name++) {
            x.fact(name, facts[name]);
        }
        Checks.due("run of '" + text + "'", x.run(0), -1);
        Checks.due("explain of '" + text + "'", x.explain(0), 2);
        Checks.due("rule of '" + text + "'", x.open(0, 0), 0);
        Checks.due("reason of '" + text + "'", x.open(0, 1), reason);
        Checks.due("fact of '" + text + "'", x.open(0, 2), untold);
    }

    // "A SUM are TERMS with + or - between, a TERM are ATOMS with * or / or % between, from the left on."
    // "What is to be reckoned is reckoned from the left to the right, of CONDITIONS up to the first that
    // does not hold."

    private static void order() {
        dueOutcome("rule 9 - 5 - 3 = 1 ;", 0);
        dueOutcome("rule 9 - ( 5 - 3 ) = 7 ;", 0);
        dueOutcome("rule 9 - 5 + 3 = 7 ;", 0);
        dueOutcome("rule 2 + 3 * 4 = 14 ;", 0);
        dueOutcome("rule 2 * 3 + 4 = 10 ;", 0);
        dueOutcome("rule ( 2 + 3 ) * 4 = 20 ;", 0);
        dueOutcome("rule 2 * ( 3 + 4 ) = 14 ;", 0);
        dueOutcome("rule 40 / 4 / 5 = 2 ;", 0);
        dueOutcome("rule 40 / ( 20 / 5 ) = 10 ;", 0);
        dueOutcome("rule 7 / 2 * 2 = 6 ;", 0);
        dueOutcome("rule 7 * 2 / 2 = 7 ;", 0);
        dueOutcome("rule 17 % 10 % 4 = 3 ;", 0);
        dueOutcome("rule 17 % ( 10 % 4 ) = 1 ;", 0);
        dueOutcome("rule 5 * 7 % 4 = 3 ;", 0);
        dueOutcome("rule 5 * ( 7 % 4 ) = 15 ;", 0);
        dueOutcome("rule 20 - 17 % 10 / 2 * 3 + 1 = 12 ;", 0);
        dueOutcome("table 7 8 9 ; rule at 0 1 + 1 = 9 ;", 0);
        dueOutcome("table 7 8 9 ; rule at 0 1 * 2 = 16 ;", 0);
        dueOutcome("table 7 8 9 ; rule at 0 ( 1 + 1 ) = 9 ;", 0);
        dueOutcome("table 2 0 1 ; rule at 0 at 0 at 0 0 = 0 ;", 0);
        dueOutcome("table 2 0 1 ; table 5 6 7 ; rule at 1 at 0 0 - at 0 2 = 6 ;", 0);

        dueOutcome("rule 1 = 2 and 1 / 0 = 1 ;", 1);
        dueOpen("rule 1 = 1 and 1 / 0 = 1 ;", 1, NONE);
        dueOpen("rule 1 / 0 = 1 and 1 = 2 ;", 1, NONE);
        dueOutcome("rule 1 = 1 and 1 = 2 and fact 0 = 1 ;", 1);
        dueOpen("rule 1 = 1 and 1 = 1 and fact 0 = 1 ;", 3, 0);
        dueOutcome("when 1 = 2 and fact 0 = 1 need 1 = 1 ;", 3);
        dueOpen("when 1 = 1 and fact 0 = 1 need 1 = 2 ;", 3, 0);
        dueOpen("when fact 0 = 1 and 1 = 2 need 1 = 2 ;", 3, 0);
        dueOutcome("when 1 = 2 need 1 / 0 = 1 ;", 3);
        dueOpen("when 1 = 1 need 1 / 0 = 1 ;", 1, NONE);
        dueOpen("when 1 = 1 need 1 / 0 = 1 and 1 = 2 ;", 1, NONE);
        dueOutcome("when 1 = 1 need 1 = 2 and 1 / 0 = 1 ;", 1);
        // A value that is not needed for the answer is reckoned all the same.
        dueOpen("rule 0 * fact 0 = 0 ;", 3, 0);
        dueOpen("rule fact 0 = fact 0 ;", 3, 0);
        dueOpen("rule 0 * ( 1 / 0 ) = 0 ;", 1, NONE);

        dueOpen("rule fact 1 + fact 0 = 1 ;", 3, 1);
        dueOpen("rule fact 1 = 1 / 0 ;", 3, 1);
        dueOpen("rule 1 / 0 = fact 1 ;", 1, NONE);
        dueOpen("rule 1 / 0 + fact 1 = 1 ;", 1, NONE);
        dueOpen("rule fact 1 + 1 / 0 = 1 ;", 3, 1);
        dueOpen("rule 1 + 1 / 0 * fact 1 = 1 ;", 1, NONE);
        dueOpen("rule fact 1 / 0 = 1 ;", 3, 1);
        dueOpen("rule 1 / ( 0 * fact 1 ) = 1 ;", 3, 1);
        dueOpen("table 1 ; rule at 0 1 = 1 / 0 ;", 2, NONE);
        dueOpen("table 1 ; rule 1 % 0 = at 0 1 ;", 1, NONE);
        dueOpen("table 1 ; rule at 0 ( 1 / 0 ) = 1 ;", 1, NONE);
        dueOpen("table 1 ; rule at 0 fact 7 = 1 ;", 3, 7);
        dueOpen("table 1 ; rule at 0 ( at 0 1 + fact 7 ) = 1 ;", 2, NONE);
        dueOpen("table 1 ; rule at 0 ( fact 7 + at 0 1 ) = 1 ;", 3, 7);
        dueOpen("when 1 = 1 and fact 6 = 1 need fact 7 = 1 ;", 3, 6);
        oneRuleEndsBeforeTheNext();
        openRulesLeaveNothing();
    }

    private static void oneRuleEndsBeforeTheNext() {
        String[] rules = {"rule 1 = 1 ; ", "rule 1 = 2 ; ", "rule fact 0 = 1 ; ", "when 1 = 2 need 1 = 1 ; ",
            "when 1 = 1 need 1 = 1 ; ", "when 1 = 1 need 1 = 2 ; ", "when fact 0 = 1 need 1 = 1 ; "};
        int[] outcomes = {0, 1, 2, 3, 0, 1, 2};
        for (int a = 0; a < rules.length; a++) {
            for (int b = 0; b < rules.length; b++) {
                Counted x = Counted.with(rules[a] + rules[b]);
                x.run(0);
                Checks.due("'" + rules[a] + "' before '" + rules[b] + "'", x.explain(0), outcomes[a]);
                Checks.due("'" + rules[b] + "' behind '" + rules[a] + "'", x.explain(1), outcomes[b]);
            }
        }
    }

    /** What an open rule had reckoned before it was open is no part of what is reckoned later. */
    private static void openRulesLeaveNothing() {
        Counted x = Counted.with("rule 1 + 2 * ( 3 + 2 * fact 0 ) = fact 1 ; rule 1 + 2 * ( 3 + fact 1 / 0 ) = 1 ;");
        x.fact(1, 15);
        while (x.callsLeft() > 5) {
            Checks.due("open each time", x.run(0), -1);
        }
        Checks.due("fact 0 is told", x.fact(0, 2), true);
        Checks.due("only the second one is open", x.run(0), -1);
        Checks.due("the first one holds", x.explain(0), 0);
        Checks.due("fact 0 is told anew", x.fact(0, 3), true);
        Checks.due("the first one is broken", x.run(0), 1);
    }

    // "its REASON: 1 / or % by 0"

    private static void byZero() {
        for (String operator : new String[] {"/", "%"}) {
            String text = "rule 5 " + operator + " fact 0 = 5 " + operator + " fact 0 ;";
            dueOpen(text, 1, NONE, 0);
            for (long right : new long[] {1, -1, TURN, -TURN, Long.MIN_VALUE, Long.MAX_VALUE}) {
                dueOutcome(text, 0, right);
            }
            dueOpen("rule 0 " + operator + " 0 = 0 ;", 1, NONE);
            dueOpen("rule 1 " + operator + " ( 3 - 3 ) = 0 ;", 1, NONE);
            dueOpen("rule 1 " + operator + " ( 1 / 2 ) = 0 ;", 1, NONE);
            dueOpen("rule 1 " + operator + " ( fact 0 * fact 0 ) = 0 ;", 1, NONE, TURN);
        }
    }

    // "2 a place that the table has not (0 is its first number)"

    private static void places() {
        for (int size = 1; size <= 10; size++) {
            StringBuilder text = new StringBuilder("table 99 98 ; table");
            for (int k = 0; k < size; k++) {
                text.append(" ").append(k + 20);
            }
            text.append(" ; table 97 ; rule at 1 fact 0 = fact 0 + 20 ;");
            for (long k = -2; k < 13; k++) {
                if (k >= 0 && k < size) {
                    dueOutcome(text.toString(), 0, k);
                } else {
                    dueOpen(text.toString(), 2, NONE, k);
                }
            }
            for (long k : new long[] {TURN, TURN + 1, -TURN, LEAST, MOST, Long.MIN_VALUE, Long.MAX_VALUE, 256, 65536,
                TURN - 1}) {
                dueOpen(text.toString(), 2, NONE, k);
            }
        }
        dueOpen("table 999999999 ; rule at 0 at 0 0 = 1 ;", 2, NONE);
    }

    // "3 a fact that is not told"

    private static void untold() {
        for (int name = 0; name < 20; name++) {
            Counted x = Counted.with("rule fact " + name + " = 0 ;");
            for (int other = 0; other < 20; other++) {
                if (other != name) {
                    x.fact(other, 0);
                }
            }
            Checks.due("all but it are told", x.run(0), -1);
            Checks.due("reason", x.open(0, 1), 3);
            Checks.due("fact", x.open(0, 2), name);
            x.fact(name, 0);
            Checks.due("told as 0", x.run(0), 0);
            Checks.due("not open", x.open(0, 2), NONE);
            x.clearFacts();
            Checks.due("not told any more", x.run(0), -1);
        }
    }

    // "rule is BROKEN if its CONDITIONS do not all hold; when is IDLE if those before need do not, else
    // BROKEN if those behind it do not; all other ones HOLD."

    private static void outcomes() {
        String[] held = {"1 = 1", "1 = 2"};
        for (int a = 0; a < 2; a++) {
            for (int b = 0; b < 2; b++) {
                dueOutcome("rule " + held[a] + " and " + held[b] + " ;", a + b == 0 ? 0 : 1);
                dueOutcome("when " + held[a] + " need " + held[b] + " ;", a == 1 ? 3 : b);
                for (int c = 0; c < 2; c++) {
                    dueOutcome("when " + held[a] + " and " + held[c] + " need " + held[b] + " ;", a + c > 0 ? 3 : b);
                    dueOutcome("when " + held[a] + " need " + held[b] + " and " + held[c] + " ;",
                        a == 1 ? 3 : b + c > 0 ? 1 : 0);
                    dueOutcome("rule " + held[a] + " and " + held[b] + " and " + held[c] + " ;", a + b + c > 0 ? 1 : 0);
                }
            }
        }
    }

    // Promise 1: "No editions, no facts, no hauls."

    private static void newObject() {
        Counted x = new Counted();
        Checks.due("editions", x.editions(), 0);
        Checks.due("facts", x.clearFacts(), 0);
        for (int h = -1; h < 11; h++) {
            for (int kind = -1; kind < 9; kind++) {
                Checks.due("above", x.byCatch(h, kind, 0), NONE);
                Checks.due("below", x.byCatch(h, kind, 1), NONE);
            }
        }
        for (int day : new int[] {LEAST, -1, 0, 100000, 100001, MOST}) {
            Checks.due("run", x.run(day), 0);
            Checks.due("walk", x.walk(day), 0);
            Checks.due("table", x.table(day, 0, 0), THROWS);
            Checks.due("write", x.write(day, 0), NONE);
            Checks.due("allowed", x.allowed(day, 0, 20), 20);
            Checks.due("allowed", x.allowed(day, 19, 0), 0);
        }
        Checks.due("broken", x.broken(0, 0), NONE);
        Checks.due("broken's word", x.broken(0, 1), NONE);
        Checks.due("open", x.open(0, 0), NONE);
        Checks.due("open's reason", x.open(0, 1), NONE);
        Checks.due("open's fact", x.open(0, 2), NONE);
        Checks.due("explain", x.explain(0), NONE);
        Checks.due("written", x.written(0), NONE);
        Checks.due("the tape is empty", x.readText(0, "rule 1 = 1 ;"), 1);
    }

    // Promise 2: "false when it has 800". No run of 512 calls can show it.

    private static void fullTape() {
        LicenceTexts x = new LicenceTexts();
        String text = "rule 1 = 1 ;" + times(" ", 786) + "r";
        for (int i = 0; i < text.length(); i++) {
            Checks.due("byte " + i, x.unit(text.charAt(i)), true);
        }
        Checks.due("byte 799 is the last", x.unit('u'), true);
        Checks.due("byte 800", x.unit('l'), false);
        Checks.due("byte 800 again", x.unit(' '), false);
        Checks.due("a refused read leaves it full", x.read(-1), REFUSED);
        Checks.due("byte 800 still", x.unit('l'), false);
        Checks.due("the bytes that were taken", x.read(0), -1 - 5);
        Checks.due("it is empty then", x.unit('x'), true);
        LicenceTexts ended = new LicenceTexts();
        String sum = "rule 7" + times(" + 7", 195) + " < 1 + 7 + 7 +";
        for (int i = 0; i < 800; i++) {
            Checks.due("byte " + i, ended.unit(sum.charAt(i)), true);
        }
        Checks.due("as many words as there are", ended.read(0), -1 - 399);
    }

    // Promise 2: "(the lowest eight bits)"

    private static void lowestBits() {
        int[] turns = {0, 256, -256, 512, 1 << 16, 1 << 30, LEAST, MOST - 255};
        for (int turn : turns) {
            Counted x = new Counted();
            for (char c : "rule 1 = 1 ;\ntable 2 ;".toCharArray()) {
                Checks.due("unit", x.unit(turn + c), true);
            }
            Checks.due("a text by bytes and " + turn, x.read(0), 1);
            x.write(0, 0);
            Checks.due("its rule", x.line(), "rule 1 = 1");
        }
    }

    // Promise 3: "The tape, which is empty then"; "there is none then"; "REFUSED, the tape staying"

    private static void tapeAfterRead() {
        Counted x = new Counted();
        Checks.due("a text", x.readText(0, "rule 1 = 1 ;"), 1);
        Checks.due("the tape is empty", x.read(1), 0);
        Checks.due("a wrong text", x.readText(2, "rule 1 = 1 ; rule"), -1 - 6);
        Checks.due("the tape is empty", x.read(2), 0);
        Checks.due("a word at its end", x.readText(3, "rul"), -1);
        Checks.due("it does not go on", x.readText(3, "e 1 = 1 ;"), -1);
        Checks.due("day refused", x.readText(2, "rul"), REFUSED);
        Checks.due("day too small", x.read(-1), REFUSED);
        Checks.due("day too large", x.read(100001), REFUSED);
        Checks.due("the word goes on", x.readText(3, "e 1 = 2 ;"), 1);
        Checks.due("four", x.editions(), 4);
        x.run(3);
        Checks.due("its word", x.broken(0, 1), 0);
    }

    // Promise 6: "No facts are told: how many were."

    private static void clearFacts() {
        for (int told = 0; told <= 20; told++) {
            Counted x = new Counted();
            for (int name = 0; name < told; name++) {
                x.fact(19 - name, name);
                x.fact(19 - name, 0);
            }
            x.fact(20, 1);
            x.fact(-1, 1);
            Checks.due(told + " facts", x.clearFacts(), told);
            Checks.due("none then", x.clearFacts(), 0);
        }
    }

    // Promise 7: "1 plus the least that is BROKEN; without one -1 if some is OPEN; else 0."

    private static void runAnswers() {
        for (int at = 0; at < 12; at++) {
            for (int other = 0; other < 12; other++) {
                StringBuilder text = new StringBuilder();
                for (int rule = 0; rule < 12; rule++) {
                    text.append("rule 1 = ").append(rule == at ? "2" : rule == other ? "fact 0" : "1").append(" ; ");
                }
                Counted x = Counted.with(text.toString());
                Checks.due("broken " + at + ", open " + other, x.run(0), 1 + at);
                Checks.due("the same by walk", x.walk(0), 1 + at);
                x.fact(0, 3);
                Checks.due("both broken", x.run(0), 1 + Math.min(at, other));
            }
            String one = times("rule 1 = 1 ; ", at) + "rule 1 / 0 = 1 ; " + times("rule 1 = 1 ; ", 11 - at);
            Checks.due("open " + at, Counted.with(one).run(0), -1);
        }
        Checks.due("all open", Counted.with(times("rule fact 0 = 1 ; ", 12)).run(0), -1);
        Checks.due("all idle", Counted.with(times("when 1 = 2 need 1 = 2 ; ", 12)).run(0), 0);
        Checks.due("idle and open", Counted.with("when 1 = 2 need 1 = 2 ; rule fact 0 = 1 ;").run(0), -1);
        Checks.due("no rules", Counted.with("table 1 ;").run(0), 0);
    }

    // Promise 8: "The same answer, for any day; what the latest run() found stays."

    private static void walk() {
        Counted x = new Counted();
        x.readText(5, "rule 1 = 2 ;");
        x.readText(6, "rule fact 3 = 2 ; rule 1 = 1 ;");
        x.run(6);
        int[][] days = {{LEAST, 0}, {-1, 0}, {0, 0}, {4, 0}, {5, 1}, {6, -1}, {100000, -1}, {100001, -1}, {MOST, -1}};
        for (int[] day : days) {
            Checks.due("walk(" + day[0] + ")", x.walk(day[0]), day[1]);
            Checks.due("open stays", x.open(0, 2), 3);
            Checks.due("broken stays", x.broken(0, 0), NONE);
            Checks.due("explain stays", x.explain(1), 0);
        }
        for (int[] day : days) {
            Checks.due("run(" + day[0] + ")", x.run(day[0]), day[1]);
        }
        Counted y = Counted.with("rule 1 = 2 ;");
        y.walk(0);
        Checks.due("a walk is no run", y.broken(0, 0), NONE);
        Checks.due("a walk is no run", y.explain(0), NONE);
    }

    // Promise 9: "NONE when there is none such, or for others."

    private static void broken() {
        Counted x = Counted.with("rule 1 = 2 ; rule 1 = 1 ; table 1 ; when 1 = 1 need 1 = 2 ; rule fact 0 = 1 ;");
        x.run(0);
        int[][] want = {{0, 0}, {2, 13}};
        for (int k : new int[] {LEAST, -1, 0, 1, 2, 3, 12, MOST}) {
            for (int what : new int[] {LEAST, -1, 0, 1, 2, 3, MOST}) {
                boolean there = k >= 0 && k < 2 && what >= 0 && what < 2;
                Checks.due("broken(" + k + ", " + what + ")", x.broken(k, what), there ? want[k][what] : NONE);
            }
        }
        x.fact(0, 5);
        Checks.due("it is of the latest run", x.broken(2, 0), NONE);
        x.run(0);
        Checks.due("a third", x.broken(2, 0), 3);
        Checks.due("its word", x.broken(2, 1), 22);
        Checks.due("no fourth", x.broken(3, 0), NONE);
        x.run(-1);
        Checks.due("a run without rules", x.broken(0, 0), NONE);
        Checks.due("a run without rules", x.broken(0, 1), NONE);
    }

    // Promise 10: "2 the fact that is not told (NONE for other REASONS). NONE likewise."

    private static void open() {
        Counted x = Counted.with("rule fact 19 = 1 ; rule 1 = 2 ; rule fact 0 = 1 ; rule 1 % 0 = 1 ; table 4 ; "
            + "rule at 0 1 = 1 ; rule 1 = 1 ;");
        x.run(0);
        int[][] want = {{0, 3, 19}, {2, 3, 0}, {3, 1, NONE}, {4, 2, NONE}};
        for (int k : new int[] {LEAST, -1, 0, 1, 2, 3, 4, 5, 12, MOST}) {
            for (int what : new int[] {LEAST, -1, 0, 1, 2, 3, 4, MOST}) {
                boolean there = k >= 0 && k < 4 && what >= 0 && what < 3;
                Checks.due("open(" + k + ", " + what + ")", x.open(k, what), there ? want[k][what] : NONE);
            }
        }
        x.fact(19, 1);
        Checks.due("it is of the latest run", x.open(0, 2), 19);
        x.run(0);
        Checks.due("one less", x.open(0, 2), 0);
        Checks.due("no fourth", x.open(3, 0), NONE);
        // A REASON of an earlier run does not stay with a rule that is open for another one.
        Counted y = Counted.with("rule 1 / fact 4 = 1 ;");
        y.run(0);
        Checks.due("first not told", y.open(0, 2), 4);
        y.fact(4, 0);
        y.run(0);
        Checks.due("then by 0", y.open(0, 1), 1);
        Checks.due("and no fact", y.open(0, 2), NONE);
    }

    // Promise 11: "NONE when there is none such."

    private static void explain() {
        for (int rules = 0; rules <= 12; rules++) {
            Counted x = Counted.with(times("rule 1 = 1 ; ", rules));
            Checks.due("before a run", x.explain(0), NONE);
            x.run(0);
            for (int rule : new int[] {LEAST, -1, 0, rules - 1, rules, rules + 1, 12, 13, MOST}) {
                Checks.due("explain(" + rule + ") of " + rules, x.explain(rule), rule >= 0 && rule < rules ? 0 : NONE);
            }
            x.run(-1);
            Checks.due("a run without rules", x.explain(0), NONE);
        }
        Counted x = Counted.with("rule 1 = 1 ; rule 1 = 2 ; rule fact 0 = 1 ; when 1 = 2 need 1 = 1 ;");
        x.run(0);
        for (int rule = 0; rule < 4; rule++) {
            Checks.due("explain(" + rule + ")", x.explain(rule), rule);
        }
        x.readText(1, "rule 1 = 2 ;");
        x.fact(0, 1);
        x.walk(1);
        for (int rule = 0; rule < 4; rule++) {
            Checks.due("explain(" + rule + ") stays", x.explain(rule), rule);
        }
        x.run(1);
        Checks.due("of the latest run", x.explain(0), 1);
        Checks.due("none of the run before", x.explain(1), NONE);
    }

    // Promise 12: "IndexOutOfBoundsException: there is no such table, or number."

    private static void table() {
        Counted x = new Counted();
        x.readText(1, "table 0 ; table 999999999 7 ;");
        x.readText(3, "rule 1 = 1 ;");
        int[][] taken = {{1, 0, 0, 0}, {2, 1, 0, 999999999}, {2, 1, 1, 7}};
        for (int[] t : taken) {
            Checks.due("table", x.table(t[0], t[1], t[2]), t[3]);
        }
        int[][] not = {{0, 0, 0}, {-1, 0, 0}, {LEAST, 0, 0}, {3, 0, 0}, {MOST, 0, 0}, {1, 0, 1}, {1, 0, -1},
            {1, 0, LEAST}, {1, 0, MOST}, {1, 1, 2}, {1, 1, -1}, {1, 1, 10}, {1, 1, -10}, {1, 2, 0}, {1, -1, 0},
            {1, -1, 10}, {1, LEAST, 0}, {1, MOST, 0}, {1, 8, 0}, {1, 0, 10}, {1, 1 << 28, 0}, {1, 1 << 31, 10}};
        for (int[] t : not) {
            Checks.due("table(" + t[0] + ", " + t[1] + ", " + t[2] + ")", x.table(t[0], t[1], t[2]), THROWS);
        }
    }

    // Promise 13: "The greatest of 0 .. most"; "NONE when there is none, no such fact, or most is not
    // 0 .. 20."

    private static void allowed() {
        for (int least = -1; least <= 22; least++) {
            Counted x = Counted.with("rule fact 5 = fact 6 ;");
            x.fact(6, least);
            for (int most = -2; most <= 22; most++) {
                boolean there = most >= 0 && most <= 20 && least >= 0 && least <= most;
                Checks.due("only " + least + " of 0 .. " + most, x.allowed(0, 5, most), there ? least : NONE);
            }
        }
        Counted x = Counted.with("rule 1 = 1 ;");
        for (int name = -2; name <= 22; name++) {
            Checks.due("fact " + name, x.allowed(0, name, 20), name >= 0 && name < 20 ? 20 : NONE);
            Checks.due("fact " + name + ", 0", x.allowed(0, name, 0), name >= 0 && name < 20 ? 0 : NONE);
        }
        for (int most = -2; most <= 22; most++) {
            Checks.due("most " + most, x.allowed(0, 0, most), most >= 0 && most <= 20 ? most : NONE);
        }
        for (int far : new int[] {LEAST, MOST, 32, -20, 256, 1 << 16}) {
            Checks.due("far name", x.allowed(0, far, 3), NONE);
            Checks.due("far most", x.allowed(0, 3, far), NONE);
        }
        Checks.due("no fact is told by it", x.clearFacts(), 0);

        Counted open = Counted.with("table 1 1 1 ; rule at 0 fact 1 = 1 ; rule 6 / ( fact 1 - 2 ) < 0 ;");
        Checks.due("open and broken ones do not count", open.allowed(0, 1, 20), 1);
        Counted never = Counted.with("rule fact 1 < 100 ; rule fact 2 = 1 ;");
        Checks.due("open by another fact", never.allowed(0, 1, 20), NONE);
        never.fact(2, 1);
        Checks.due("it is told", never.allowed(0, 1, 20), 20);
        never.fact(2, 2);
        Checks.due("it is broken", never.allowed(0, 1, 20), NONE);
        Counted idle = Counted.with("when fact 1 < 7 need fact 1 <= 3 ; rule fact 1 < 9 ;");
        Checks.due("idle ones are no hindrance", idle.allowed(0, 1, 20), 8);
        Checks.due("up to 6", idle.allowed(0, 1, 6), 3);
        Checks.due("up to 7", idle.allowed(0, 1, 7), 7);

        // "(all else, and the fact itself, staying)"
        for (long value : new long[] {0, 20, 21, -1, Long.MIN_VALUE, Long.MAX_VALUE}) {
            Counted y = Counted.with("rule fact 0 = fact 1 ; rule fact 2 = 4 ;");
            y.fact(0, value);
            y.fact(1, value);
            Checks.due("run", y.run(0), -1);
            y.allowed(0, 0, 20);
            y.allowed(0, 2, 20);
            Checks.due("found still", y.open(0, 2), 2);
            Checks.due("facts still", y.walk(0), -1);
            Checks.due("two are told still", y.clearFacts(), 2);
        }
    }

    // Promise 14: "NONE when there is none such."

    private static void write() {
        for (int rules = 0; rules <= 12; rules++) {
            Counted x = Counted.with(times("rule 1 = 1 ; ", rules));
            for (int k : new int[] {LEAST, -1, 0, rules - 1, rules, rules + 1, 12, 13, MOST}) {
                Checks.due("write " + k + " of " + rules, x.write(0, k), k >= 0 && k < rules ? 10 : NONE);
            }
            Checks.due("before the first", x.write(-1, 0), NONE);
        }
        Counted x = Counted.with("rule\n\n1   =\n 1\n; when 01 = 1 need 2 <= 3 and fact 000000019 /= ( 5 ) ; ");
        Checks.due("words with a blank between", x.write(0, 0), 10);
        Checks.due("words with a blank between", x.line(), "rule 1 = 1");
        Checks.due("words with a blank between", x.write(0, 1), 51);
        Checks.due("words with a blank between", x.line(),
            "when 01 = 1 need 2 <= 3 and fact 000000019 /= ( 5 )");
        String longest = "rule " + times("1 + ", 62) + "1 = 63";
        Counted y = Counted.with(longest + " ;");
        Checks.due("a long one", y.write(0, 0), longest.length());
        Checks.due("a long one's last", y.written(longest.length() - 1), '3');
        Checks.due("behind it", y.written(longest.length()), NONE);
        // What stands on the tape later is no part of an edition.
        Counted z = Counted.with("rule 1 = 1 ;");
        z.feed("rule 2 = 2 ; rule");
        Checks.due("the edition's own words", z.write(0, 0), 10);
        Checks.due("the edition's own words", z.line(), "rule 1 = 1");
        z.read(1);
        z.write(0, 0);
        Checks.due("after a wrong text", z.line(), "rule 1 = 1");
    }

    // Promise 15: "Byte i of what was written last; NONE when there is none."

    private static void written() {
        Counted x = Counted.with("rule 1 = 1 ; rule 123 = 1 ;");
        for (int i : new int[] {LEAST, -1, 0, 1, MOST}) {
            Checks.due("nothing was written", x.written(i), NONE);
        }
        x.write(0, 1);
        String line = "rule 123 = 1";
        for (int i = -2; i < 16; i++) {
            boolean there = i >= 0 && i < line.length();
            Checks.due("byte " + i, x.written(i), there ? line.charAt(i) : NONE);
        }
        x.write(0, 0);
        Checks.due("the last of a shorter one", x.written(9), '1');
        Checks.due("behind the shorter one", x.written(10), NONE);
        Checks.due("behind the shorter one", x.written(11), NONE);
        x.write(0, 2);
        Checks.due("a refused write", x.written(9), '1');
        x.write(0, 1);
        Checks.due("the longer one again", x.line(), line);
        for (int i : new int[] {LEAST, MOST, 800, 799, 1 << 16}) {
            Checks.due("far", x.written(i), NONE);
        }
    }

    // Promise 16: "So many grams (1 .. 1000000000) more of a kind (0 .. 7) in a haul (0 .. 9). False when
    // a number is none such."

    private static void haul() {
        for (int h = -2; h < 12; h++) {
            for (int kind = -2; kind < 10; kind++) {
                Counted x = new Counted();
                boolean there = h >= 0 && h < 10 && kind >= 0 && kind < 8;
                Checks.due("haul(" + h + ", " + kind + ")", x.haul(h, kind, 3), there);
                for (int other = 0; other < 10; other++) {
                    for (int k = 0; k < 8; k++) {
                        boolean same = there && other == h;
                        Checks.due("above", x.byCatch(other, k, 0), same ? (k == kind ? 1 : 0) : NONE);
                        Checks.due("below", x.byCatch(other, k, 1), same ? 1 : NONE);
                    }
                }
            }
        }
        for (int far : new int[] {LEAST, MOST, 256, 1 << 16, 1 << 29, -8, -10}) {
            Checks.due("far haul", new Counted().haul(far, 0, 1), false);
            Checks.due("far kind", new Counted().haul(0, far, 1), false);
        }
        for (long grams : new long[] {1, 2, 999999999, 1000000000}) {
            Counted x = new Counted();
            Checks.due(grams + " grams", x.haul(4, 3, grams), true);
            x.haul(4, 4, 1);
            Checks.due(grams + " grams of", x.byCatch(4, 3, 0), grams);
            Checks.due(grams + " grams of one more", x.byCatch(4, 3, 1), grams + 1);
        }
        for (long grams : new long[] {0, -1, 1000000001, -1000000000, TURN, TURN + 1, -TURN, -TURN + 1, Long.MIN_VALUE,
            Long.MAX_VALUE, Long.MIN_VALUE + 1}) {
            Counted x = new Counted();
            Checks.due(grams + " grams", x.haul(4, 3, grams), false);
            Checks.due("none of them", x.byCatch(4, 3, 1), NONE);
        }
        Counted more = new Counted();
        more.haul(0, 0, 1000000000);
        Checks.due("more than the most in all", more.haul(0, 0, 1000000000), true);
        more.haul(0, 1, 1);
        Checks.due("more", more.byCatch(0, 0, 0), 2000000000L);
        Checks.due("beyond int", more.haul(0, 0, 1000000000), true);
        Checks.due("beyond int", more.byCatch(0, 0, 1), 3000000001L);
    }

    // Promise 17: "in lowest terms: part = 0 above, 1 below (0 is 0 / 1). NONE when there are none such,
    // it has no grams, or for other parts."

    private static void byCatch() {
        Counted x = new Counted();
        x.haul(0, 0, 4);
        x.haul(0, 7, 6);
        x.haul(9, 7, 5);
        for (int part : new int[] {LEAST, -1, 0, 1, 2, 3, MOST}) {
            boolean there = part == 0 || part == 1;
            Checks.due("haul 0, kind 0, part " + part, x.byCatch(0, 0, part), there ? (part == 0 ? 2 : 5) : NONE);
            Checks.due("haul 0, kind 7, part " + part, x.byCatch(0, 7, part), there ? (part == 0 ? 3 : 5) : NONE);
            Checks.due("haul 0, kind 3, part " + part, x.byCatch(0, 3, part), there ? part : NONE);
            Checks.due("haul 9, kind 7, part " + part, x.byCatch(9, 7, part), there ? 1 : NONE);
            Checks.due("haul 9, kind 0, part " + part, x.byCatch(9, 0, part), there ? part : NONE);
            Checks.due("haul 1, part " + part, x.byCatch(1, 0, part), NONE);
            for (int not : new int[] {LEAST, -1, 10, MOST}) {
                Checks.due("haul " + not, x.byCatch(not, 7, part), NONE);
            }
            for (int not : new int[] {LEAST, -1, 8, MOST}) {
                Checks.due("kind " + not, x.byCatch(0, not, part), NONE);
            }
        }
        long[][] pairs = {{1, 1}, {1, 2}, {2, 1}, {6, 9}, {1000000000, 1}, {1000000000, 1000000000}, {999999999, 1},
            {999999999, 1000000000}, {999999937, 999999929}, {701408733, 433494437}, {536870912, 536870912},
            {500000000, 250000000}};
        for (long[] pair : pairs) {
            Counted y = new Counted();
            y.haul(2, 5, pair[0]);
            y.haul(2, 6, pair[1]);
            long divisor = java.math.BigInteger.valueOf(pair[0]).gcd(java.math.BigInteger.valueOf(pair[1])).longValue();
            Checks.due("above", y.byCatch(2, 5, 0), pair[0] / divisor);
            Checks.due("below", y.byCatch(2, 5, 1), (pair[0] + pair[1]) / divisor);
            Checks.due("the other above", y.byCatch(2, 6, 0), pair[1] / divisor);
            Checks.due("0 above", y.byCatch(2, 4, 0), 0);
            Checks.due("0 below", y.byCatch(2, 4, 1), 1);
        }
        Counted all = new Counted();
        for (int i = 0; i < 496; i++) {
            all.haul(3, i % 8, 1000000000L - i % 8);
        }
        Checks.due("of all kinds, above", all.byCatch(3, 7, 0), 999999993L);
        Checks.due("of all kinds, below", all.byCatch(3, 7, 1), 7999999972L);
    }
}
