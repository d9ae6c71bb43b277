/**
 * Rules of licences as texts, in editions by days, over the facts of a trip.
 *
 * A text is turned into steps of a small stack machine when it is read, so that looking at its
 * rules needs neither recursion nor new objects.
 */
public final class LicenceTexts {
    public static final int NONE = -1;
    public static final int REFUSED = -1000;

    private static final int LAST_DAY = 100000;
    private static final int MOST_EDITIONS = 6;
    private static final int MOST_RULES = 12;
    private static final int MOST_ALLOWED = 20;
    private static final int BLANK = 32;
    private static final int LINE_END = 10;

    // What is found of a rule, with the numbers that explain() answers.
    private static final int HOLDS = 0;
    private static final int BROKEN = 1;
    private static final int OPEN = 2;
    private static final int IDLE = 3;

    // Why a rule is OPEN.
    private static final int BY_ZERO = 1;
    private static final int NO_PLACE = 2;
    private static final int NOT_TOLD = 3;

    // The kinds of steps; a BRACKET only waits while a text is read.
    private static final int NUMBER = 0;
    private static final int FACT = 1;
    private static final int PLACE = 2;
    private static final int BRACKET = 3;
    private static final int PLUS = 4;
    private static final int MINUS = 5;
    private static final int TIMES = 6;
    private static final int OVER = 7;
    private static final int REST = 8;
    private static final int LESS = 9;
    private static final int AT_MOST = 10;
    private static final int EQUAL = 11;
    private static final int UNEQUAL = 12;

    private final Edition[] book;
    private int bookSize;
    // Its words are the tape; the same one is used again until its text is one.
    private Edition draft;
    private final TextReader reader;
    private final Facts facts;
    private final Reckoner reckoner;
    private final Findings latest;
    private final Findings trial;
    private final Bytes line;
    private final Hauls hauls;

    public LicenceTexts() {
        book = new Edition[MOST_EDITIONS];
        bookSize = 0;
        draft = new Edition();
        reader = new TextReader(draft);
        facts = new Facts();
        reckoner = new Reckoner(facts);
        latest = new Findings();
        trial = new Findings();
        line = new Bytes();
        hauls = new Hauls();
    }

    public boolean unit(int u) {
        return draft.words.append(u);
    }

    public int read(int day) {
        if (!mayBegin(day)) {
            return REFUSED;
        }
        int wrong = reader.firstWrong(draft);
        if (wrong != NONE) {
            draft.clear();
            return -1 - wrong;
        }
        Edition edition = draft;
        edition.day = day;
        keep(edition);
        draft = new Edition();
        return edition.ruleCount;
    }

    public int editions() {
        return bookSize;
    }

    public boolean fact(int name, long v) {
        if (!facts.has(name)) {
            return false;
        }
        facts.put(name, v, true);
        return true;
    }

    public int clearFacts() {
        return facts.clear();
    }

    public int run(int day) {
        return look(day, latest);
    }

    public int walk(int day) {
        return look(day, trial);
    }

    public int broken(int k, int what) {
        int rule = latest.rankedAs(BROKEN, k);
        switch (what) {
            case 0:
                return rule;
            case 1:
                return latest.firstWordOf(rule);
            default:
                return NONE;
        }
    }

    public int open(int k, int what) {
        int rule = latest.rankedAs(OPEN, k);
        switch (what) {
            case 0:
                return rule;
            case 1:
                return latest.reasonOf(rule);
            case 2:
                return latest.untoldOf(rule);
            default:
                return NONE;
        }
    }

    public int explain(int rule) {
        return latest.outcomeOf(rule);
    }

    public int table(int day, int t, int k) throws IndexOutOfBoundsException {
        Edition edition = editionOn(day);
        int number = edition == null ? NONE : edition.tables.numberAt(t, k);
        if (number == NONE) {
            throw new IndexOutOfBoundsException("no such table or number");
        }
        return number;
    }

    public int allowed(int day, int name, int most) {
        if (!facts.has(name) || most < 0 || most > MOST_ALLOWED) {
            return NONE;
        }
        boolean told = facts.isTold(name);
        long value = facts.valueOf(name);
        int greatest = NONE;
        for (int v = most; v >= 0 && greatest == NONE; v--) {
            facts.put(name, v, true);
            if (look(day, trial) == 0) {
                greatest = v;
            }
        }
        facts.put(name, value, told);
        return greatest;
    }

    public int write(int day, int k) {
        Edition edition = editionOn(day);
        if (edition == null) {
            return NONE;
        }
        Rule rule = edition.ruleAt(k);
        if (rule == null) {
            return NONE;
        }
        line.clear();
        edition.words.copyTo(line, rule.firstWord, rule.endWord);
        return line.length;
    }

    public int written(int i) {
        return line.byteAt(i);
    }

    public boolean haul(int haul, int kind, long grams) {
        return hauls.add(haul, kind, grams);
    }

    public long byCatch(int haul, int kind, int part) {
        return hauls.share(haul, kind, part);
    }

    private boolean mayBegin(int day) {
        if (day < 0 || day > LAST_DAY || bookSize >= book.length) {
            return false;
        }
        if (bookSize <= 0) {
            return true;
        }
        Edition before = book[bookSize - 1];
        return before == null || day > before.day;
    }

    private void keep(Edition edition) {
        if (bookSize >= 0 && bookSize < book.length) {
            book[bookSize] = edition;
            bookSize++;
        }
    }

    private Edition editionOn(int day) {
        for (int i = book.length - 1; i >= 0; i--) {
            Edition edition = book[i];
            if (edition != null && edition.day <= day) {
                return edition;
            }
        }
        return null;
    }

    private int look(int day, Findings into) {
        into.clear();
        Edition edition = editionOn(day);
        if (edition == null) {
            return into.answer();
        }
        for (int k = 0; k < edition.ruleCount; k++) {
            Rule rule = edition.ruleAt(k);
            if (rule != null) {
                int outcome = reckoner.judge(edition, rule);
                into.add(outcome, reckoner.reason, reckoner.untold, rule.firstWord);
            }
        }
        return into.answer();
    }

    /** A row of at most as many bytes as the tape may have. */
    private static final class Bytes {
        private static final int MOST = 800;

        private final byte[] row;
        private int length;

        Bytes() {
            row = new byte[MOST];
            length = 0;
        }

        boolean append(int b) {
            if (length < 0 || length >= row.length) {
                return false;
            }
            row[length] = (byte) b;
            length++;
            return true;
        }

        int byteAt(int i) {
            if (i < 0 || i >= length || i >= row.length) {
                return NONE;
            }
            return row[i] & 255;
        }

        void clear() {
            length = 0;
        }
    }

    /** A tape and where its words begin and end. */
    private static final class Words {
        private static final int MOST = 400;
        private static final int MOST_DIGITS = 9;

        private final Bytes bytes;
        private final int[] starts;
        private final int[] ends;
        private int count;
        private boolean inWord;

        Words() {
            bytes = new Bytes();
            starts = new int[MOST];
            ends = new int[MOST];
            count = 0;
            inWord = false;
        }

        boolean append(int u) {
            int b = u & 255;
            int place = bytes.length;
            if (!bytes.append(b)) {
                return false;
            }
            boolean belongs = b != BLANK && b != LINE_END;
            if (belongs && !inWord) {
                begin(place);
            }
            if (belongs) {
                lengthen(place + 1);
            }
            inWord = belongs;
            return true;
        }

        private void begin(int start) {
            if (count >= 0 && count < starts.length) {
                starts[count] = start;
                count++;
            }
        }

        private void lengthen(int end) {
            int last = count - 1;
            if (last >= 0 && last < ends.length) {
                ends[last] = end;
            }
        }

        void clear() {
            bytes.clear();
            count = 0;
            inWord = false;
        }

        private int startOf(int w) {
            return w >= 0 && w < count && w < starts.length ? starts[w] : 0;
        }

        private int endOf(int w) {
            return w >= 0 && w < count && w < ends.length ? ends[w] : 0;
        }

        boolean is(int w, String text) {
            int start = startOf(w);
            if (endOf(w) - start != text.length()) {
                return false;
            }
            for (int i = 0; i < text.length(); i++) {
                if (bytes.byteAt(start + i) != text.charAt(i)) {
                    return false;
                }
            }
            return true;
        }

        /** The value of a NUMBER; NONE for other words. */
        int numberAt(int w) {
            int start = startOf(w);
            int end = endOf(w);
            if (end <= start || end - start > MOST_DIGITS) {
                return NONE;
            }
            int number = 0;
            for (int i = start; i < end; i++) {
                int b = bytes.byteAt(i);
                if (b < '0' || b > '9') {
                    return NONE;
                }
                number = number * 10 + (b - '0');
            }
            return number;
        }

        void copyTo(Bytes target, int from, int to) {
            for (int w = from; w < to; w++) {
                if (w > from) {
                    target.append(BLANK);
                }
                int end = endOf(w);
                for (int i = startOf(w); i < end; i++) {
                    target.append(bytes.byteAt(i));
                }
            }
        }
    }

    /** Steps in order: each has a kind and, for some kinds, a value. */
    private static final class Steps {
        private final int[] kinds;
        private final int[] values;
        private int count;

        Steps() {
            // Each step comes from a word of its own.
            kinds = new int[Words.MOST];
            values = new int[Words.MOST];
            count = 0;
        }

        void add(int kind, int value) {
            if (count >= 0 && count < kinds.length && count < values.length) {
                kinds[count] = kind;
                values[count] = value;
                count++;
            }
        }

        int kindAt(int i) {
            return i >= 0 && i < count && i < kinds.length ? kinds[i] : NONE;
        }

        int valueAt(int i) {
            return i >= 0 && i < count && i < values.length ? values[i] : NONE;
        }

        void removeLast() {
            if (count > 0) {
                count--;
            }
        }

        void clear() {
            count = 0;
        }
    }

    /** The tables of a text, in one row. */
    private static final class Tables {
        private static final int MOST = 8;
        private static final int MOST_NUMBERS = 10;

        private final int[] numbers;
        private final int[] sizes;
        private int count;

        Tables() {
            numbers = new int[MOST * MOST_NUMBERS];
            sizes = new int[MOST];
            count = 0;
        }

        boolean begin() {
            if (count < 0 || count >= sizes.length) {
                return false;
            }
            sizes[count] = 0;
            count++;
            return true;
        }

        int lastSize() {
            int last = count - 1;
            return last >= 0 && last < sizes.length ? sizes[last] : 0;
        }

        void clear() {
            count = 0;
        }

        /** One number more in the table begun last; false when it is full. */
        boolean addNumber(int number) {
            int last = count - 1;
            int size = lastSize();
            int place = last * MOST_NUMBERS + size;
            if (last < 0 || last >= sizes.length || size >= MOST_NUMBERS
                    || place < 0 || place >= numbers.length) {
                return false;
            }
            numbers[place] = number;
            sizes[last] = size + 1;
            return true;
        }

        /** Number k of table t; NONE, which no table holds, when there is none such. */
        int numberAt(int t, long k) {
            if (t < 0 || t >= count || t >= sizes.length || k < 0 || k >= sizes[t]) {
                return NONE;
            }
            int place = t * MOST_NUMBERS + (int) k;
            return place >= 0 && place < numbers.length ? numbers[place] : NONE;
        }
    }

    /**
     * Where a rule stands among the words and steps of its text. The steps from start to need are
     * the CONDITIONS before need; a rule without need has none there.
     */
    private static final class Rule {
        private final int firstWord;
        private final int start;
        private int endWord;
        private int need;
        private int end;

        Rule(int firstWord, int start) {
            this.firstWord = firstWord;
            this.start = start;
            endWord = firstWord;
            need = start;
            end = start;
        }
    }

    /** A text that counts from a day on. */
    private static final class Edition {
        private final Words words;
        private final Steps steps;
        private final Tables tables;
        private final Rule[] rules;
        private int ruleCount;
        private int day;

        Edition() {
            words = new Words();
            steps = new Steps();
            tables = new Tables();
            rules = new Rule[MOST_RULES];
            ruleCount = 0;
            day = 0;
        }

        void clear() {
            words.clear();
            steps.clear();
            tables.clear();
            ruleCount = 0;
        }

        Rule ruleAt(int k) {
            return k >= 0 && k < ruleCount && k < rules.length ? rules[k] : null;
        }

        boolean beginRule(int firstWord) {
            if (ruleCount < 0 || ruleCount >= rules.length) {
                return false;
            }
            rules[ruleCount] = new Rule(firstWord, steps.count);
            ruleCount++;
            return true;
        }

        void beginNeed() {
            Rule rule = ruleAt(ruleCount - 1);
            if (rule != null) {
                rule.need = steps.count;
            }
        }

        void endRule(int endWord) {
            Rule rule = ruleAt(ruleCount - 1);
            if (rule != null) {
                rule.endWord = endWord;
                rule.end = steps.count;
            }
        }
    }

    /**
     * Takes the words of an edition one after the other and fills the edition's tables, rules and
     * steps. Operators wait until what stands right of them has been taken.
     */
    private static final class TextReader {
        private static final int MOST_AROUND = 12;

        // What the next word has to be.
        private static final int ITEM = 0;
        private static final int TABLE_NUMBER = 1;
        private static final int ATOM = 2;
        private static final int FACT_NAME = 3;
        private static final int TABLE_NAME = 4;
        private static final int BEHIND_ATOM = 5;

        // How closely what waits binds; a BRACKET stays until it is closed.
        private static final int SUMS = 1;
        private static final int TERMS = 2;
        private static final int PLACES = 3;

        private final Steps waiting;
        private Edition edition;
        private Words words;
        private Steps steps;
        private int awaited;
        private int around;
        private int relation;
        private boolean needAwaited;

        TextReader(Edition first) {
            waiting = new Steps();
            edition = first;
            words = first.words;
            steps = first.steps;
            awaited = ITEM;
            around = 0;
            relation = NONE;
            needAwaited = false;
        }

        /** The number of the word of an edition that is WRONG; NONE when all words are a text. */
        int firstWrong(Edition next) {
            begin(next);
            for (int w = 0; w < words.count; w++) {
                if (!take(w)) {
                    return w;
                }
            }
            return awaited == ITEM ? NONE : words.count;
        }

        private void begin(Edition next) {
            edition = next;
            words = next.words;
            steps = next.steps;
            waiting.clear();
            awaited = ITEM;
            around = 0;
            relation = NONE;
            needAwaited = false;
        }

        private boolean take(int w) {
            switch (awaited) {
                case ITEM:
                    return takeItem(w);
                case TABLE_NUMBER:
                    return takeTableNumber(w);
                case ATOM:
                    return takeAtom(w);
                case FACT_NAME:
                    return takeFactName(w);
                case TABLE_NAME:
                    return takeTableName(w);
                default:
                    return takeBehindAtom(w);
            }
        }

        private boolean takeItem(int w) {
            if (words.is(w, "table")) {
                awaited = TABLE_NUMBER;
                return edition.tables.begin();
            }
            needAwaited = words.is(w, "when");
            awaited = ATOM;
            return (needAwaited || words.is(w, "rule")) && edition.beginRule(w);
        }

        private boolean takeTableNumber(int w) {
            if (words.is(w, ";")) {
                awaited = ITEM;
                return edition.tables.lastSize() > 0;
            }
            int number = words.numberAt(w);
            return number != NONE && edition.tables.addNumber(number);
        }

        private boolean takeAtom(int w) {
            if (around > MOST_AROUND) {
                return false;
            }
            int number = words.numberAt(w);
            if (number != NONE) {
                steps.add(NUMBER, number);
                endAtom();
                return true;
            }
            if (words.is(w, "fact")) {
                awaited = FACT_NAME;
                return true;
            }
            if (words.is(w, "at")) {
                awaited = TABLE_NAME;
                return true;
            }
            if (words.is(w, "(")) {
                waitAround(BRACKET, NONE);
                return true;
            }
            return false;
        }

        private boolean takeFactName(int w) {
            int name = words.numberAt(w);
            if (name < 0 || name >= Facts.COUNT) {
                return false;
            }
            steps.add(FACT, name);
            endAtom();
            return true;
        }

        private boolean takeTableName(int w) {
            int t = words.numberAt(w);
            if (t < 0 || t >= edition.tables.count) {
                return false;
            }
            waitAround(PLACE, t);
            return true;
        }

        private boolean takeBehindAtom(int w) {
            int operator = operatorAt(w);
            if (operator != NONE) {
                settle(rankOf(operator));
                waiting.add(operator, NONE);
                awaited = ATOM;
                return true;
            }
            if (around > 0) {
                return words.is(w, ")") && closeBracket();
            }
            settle(SUMS);
            if (relation == NONE) {
                relation = relationAt(w);
                awaited = ATOM;
                return relation != NONE;
            }
            steps.add(relation, NONE);
            relation = NONE;
            if (words.is(w, "and")) {
                awaited = ATOM;
                return true;
            }
            return needAwaited ? takeNeed(w) : takeRuleEnd(w);
        }

        private boolean takeNeed(int w) {
            if (!words.is(w, "need")) {
                return false;
            }
            edition.beginNeed();
            needAwaited = false;
            awaited = ATOM;
            return true;
        }

        private boolean takeRuleEnd(int w) {
            if (!words.is(w, ";")) {
                return false;
            }
            edition.endRule(w);
            awaited = ITEM;
            return true;
        }

        /** What waits here lies around the next ATOM. */
        private void waitAround(int kind, int value) {
            waiting.add(kind, value);
            around++;
            awaited = ATOM;
        }

        private boolean closeBracket() {
            settle(SUMS);
            if (waiting.kindAt(waiting.count - 1) != BRACKET) {
                return false;
            }
            waiting.removeLast();
            around--;
            settle(PLACES);
            return true;
        }

        /** With an ATOM the places end whose ATOM it is. */
        private void endAtom() {
            settle(PLACES);
            awaited = BEHIND_ATOM;
        }

        /** What binds as closely as that rank, or closer, waits no longer. */
        private void settle(int rank) {
            for (int last = waiting.count - 1; last >= 0; last--) {
                int kind = waiting.kindAt(last);
                if (rankOf(kind) < rank) {
                    return;
                }
                steps.add(kind, waiting.valueAt(last));
                waiting.removeLast();
                if (kind == PLACE) {
                    around--;
                }
            }
        }

        private static int rankOf(int kind) {
            switch (kind) {
                case PLUS:
                case MINUS:
                    return SUMS;
                case TIMES:
                case OVER:
                case REST:
                    return TERMS;
                case PLACE:
                    return PLACES;
                default:
                    return 0;
            }
        }

        private int operatorAt(int w) {
            if (words.is(w, "+")) {
                return PLUS;
            }
            if (words.is(w, "-")) {
                return MINUS;
            }
            if (words.is(w, "*")) {
                return TIMES;
            }
            if (words.is(w, "/")) {
                return OVER;
            }
            return words.is(w, "%") ? REST : NONE;
        }

        private int relationAt(int w) {
            if (words.is(w, "<")) {
                return LESS;
            }
            if (words.is(w, "<=")) {
                return AT_MOST;
            }
            if (words.is(w, "=")) {
                return EQUAL;
            }
            return words.is(w, "/=") ? UNEQUAL : NONE;
        }
    }

    /** The facts of the trip. */
    private static final class Facts {
        private static final int COUNT = 20;

        private final long[] values;
        private final boolean[] told;

        Facts() {
            values = new long[COUNT];
            told = new boolean[COUNT];
        }

        boolean has(int name) {
            return name >= 0 && name < values.length && name < told.length;
        }

        void put(int name, long value, boolean isTold) {
            if (has(name)) {
                values[name] = value;
                told[name] = isTold;
            }
        }

        boolean isTold(int name) {
            return name >= 0 && name < told.length && told[name];
        }

        long valueOf(int name) {
            return name >= 0 && name < values.length ? values[name] : 0;
        }

        int clear() {
            int count = 0;
            for (int name = 0; name < told.length; name++) {
                if (told[name]) {
                    count++;
                }
                told[name] = false;
            }
            return count;
        }
    }

    /** Follows the steps of a rule over the facts. */
    private static final class Reckoner {
        // Far above the 28 that can stand at once: a SUM keeps two values waiting, thirteen SUMS lie
        // in one another at most, and there are the left side of the RELATION and the newest value.
        private static final int MOST_VALUES = 64;

        private final Facts facts;
        private final long[] values;
        private int height;
        private int reason;
        private int untold;

        Reckoner(Facts facts) {
            this.facts = facts;
            values = new long[MOST_VALUES];
            height = 0;
            reason = NONE;
            untold = NONE;
        }

        int judge(Edition edition, Rule rule) {
            reason = NONE;
            untold = NONE;
            int before = follow(edition, rule.start, rule.need);
            if (before == BROKEN) {
                return IDLE;
            }
            return before == HOLDS ? follow(edition, rule.need, rule.end) : before;
        }

        /** HOLDS; BROKEN at the first CONDITION that does not hold; or OPEN. */
        private int follow(Edition edition, int from, int to) {
            height = 0;
            for (int i = from; i < to; i++) {
                int kind = edition.steps.kindAt(i);
                int value = edition.steps.valueAt(i);
                if (kind >= LESS) {
                    if (!related(kind)) {
                        return BROKEN;
                    }
                } else if (!reckon(kind, value, edition.tables)) {
                    return OPEN;
                }
            }
            return HOLDS;
        }

        private boolean related(int kind) {
            long right = pop();
            long left = pop();
            switch (kind) {
                case LESS:
                    return left < right;
                case AT_MOST:
                    return left <= right;
                case EQUAL:
                    return left == right;
                default:
                    return left != right;
            }
        }

        private boolean reckon(int kind, int value, Tables tables) {
            switch (kind) {
                case NUMBER:
                    push(value);
                    return true;
                case FACT:
                    return pushFact(value);
                case PLACE:
                    return pushPlace(tables, value);
                default:
                    return combine(kind);
            }
        }

        private boolean pushFact(int name) {
            if (!facts.isTold(name)) {
                reason = NOT_TOLD;
                untold = name;
                return false;
            }
            push(facts.valueOf(name));
            return true;
        }

        private boolean pushPlace(Tables tables, int t) {
            int number = tables.numberAt(t, pop());
            if (number == NONE) {
                reason = NO_PLACE;
                return false;
            }
            push(number);
            return true;
        }

        private boolean combine(int kind) {
            long right = pop();
            long left = pop();
            if ((kind == OVER || kind == REST) && right == 0) {
                reason = BY_ZERO;
                return false;
            }
            push(combined(kind, left, right));
            return true;
        }

        private static long combined(int kind, long left, long right) {
            switch (kind) {
                case PLUS:
                    return left + right;
                case MINUS:
                    return left - right;
                case TIMES:
                    return left * right;
                case OVER:
                    return right == 0 ? 0 : left / right;
                default:
                    return right == 0 ? 0 : left % right;
            }
        }

        private void push(long value) {
            if (height >= 0 && height < values.length) {
                values[height] = value;
                height++;
            }
        }

        private long pop() {
            if (height <= 0 || height > values.length) {
                return 0;
            }
            height--;
            return values[height];
        }
    }

    /** What a look at all rules of a day found. */
    private static final class Findings {
        private final int[] outcomes;
        private final int[] reasons;
        private final int[] untold;
        private final int[] firstWords;
        private int count;

        Findings() {
            outcomes = new int[MOST_RULES];
            reasons = new int[MOST_RULES];
            untold = new int[MOST_RULES];
            firstWords = new int[MOST_RULES];
            count = 0;
        }

        void clear() {
            count = 0;
        }

        void add(int outcome, int reason, int missing, int firstWord) {
            if (count >= 0 && count < MOST_RULES) {
                outcomes[count] = outcome;
                reasons[count] = reason;
                untold[count] = missing;
                firstWords[count] = firstWord;
                count++;
            }
        }

        /** What run() answers. */
        int answer() {
            int least = rankedAs(BROKEN, 0);
            if (least != NONE) {
                return 1 + least;
            }
            return rankedAs(OPEN, 0) == NONE ? 0 : -1;
        }

        /** The k-th rule of an outcome. */
        int rankedAs(int outcome, int k) {
            int rank = 0;
            for (int rule = 0; rule < count; rule++) {
                if (outcomeOf(rule) == outcome) {
                    if (rank == k) {
                        return rule;
                    }
                    rank++;
                }
            }
            return NONE;
        }

        private boolean has(int rule) {
            return rule >= 0 && rule < count && rule < MOST_RULES;
        }

        int outcomeOf(int rule) {
            return has(rule) ? outcomes[rule] : NONE;
        }

        int reasonOf(int rule) {
            return has(rule) ? reasons[rule] : NONE;
        }

        int untoldOf(int rule) {
            return has(rule) ? untold[rule] : NONE;
        }

        int firstWordOf(int rule) {
            return has(rule) ? firstWords[rule] : NONE;
        }
    }

    /** The grams of each kind in each haul, in one row. */
    private static final class Hauls {
        private static final int COUNT = 10;
        private static final int KINDS = 8;
        private static final long MOST_GRAMS = 1000000000L;
        // Far above the steps that Euclid's way needs for two longs.
        private static final int MOST_STEPS = 200;

        private final long[] row;

        Hauls() {
            row = new long[COUNT * KINDS];
        }

        private static boolean has(int haul, int kind) {
            return haul >= 0 && haul < COUNT && kind >= 0 && kind < KINDS;
        }

        boolean add(int haul, int kind, long more) {
            if (!has(haul, kind) || more < 1 || more > MOST_GRAMS) {
                return false;
            }
            int place = haul * KINDS + kind;
            if (place >= 0 && place < row.length) {
                row[place] += more;
            }
            return true;
        }

        private long gramsOf(int haul, int kind) {
            int place = haul * KINDS + kind;
            return place >= 0 && place < row.length ? row[place] : 0;
        }

        private long total(int haul) {
            long sum = 0;
            for (int kind = 0; kind < KINDS; kind++) {
                sum += gramsOf(haul, kind);
            }
            return sum;
        }

        long share(int haul, int kind, int part) {
            if (!has(haul, kind) || part < 0 || part > 1) {
                return NONE;
            }
            long below = total(haul);
            long above = gramsOf(haul, kind);
            long divisor = greatestDivisor(below, above);
            // Only a haul without grams has no divisor.
            if (divisor == 0) {
                return NONE;
            }
            return part == 0 ? above / divisor : below / divisor;
        }

        private static long greatestDivisor(long a, long b) {
            long large = a;
            long small = b;
            for (int step = 0; step < MOST_STEPS && small != 0; step++) {
                long rest = large % small;
                large = small;
                small = rest;
            }
            return large;
        }
    }
}
