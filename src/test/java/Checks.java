/** What the tests share: comparing answers, and feeding texts to the tape. */
final class Checks {
    private static int wrong = 0;
    private static int done = 0;

    private Checks() {
    }

    static void due(String what, long got, long want) {
        done++;
        if (got != want) {
            wrong++;
            if (wrong <= 50) {
                System.out.println(what + " answered " + got + ", due is " + want);
            }
        }
    }

    static void due(String what, boolean got, boolean want) {
        due(what, got ? 1 : 0, want ? 1 : 0);
    }

    static void due(String what, String got, String want) {
        done++;
        if (!got.equals(want)) {
            wrong++;
            System.out.println(what + " answered '" + got + "', due is '" + want + "'");
        }
    }

    static void feed(LicenceTexts x, String text) {
        for (int i = 0; i < text.length(); i++) {
            if (!x.unit(text.charAt(i))) {
                throw new AssertionError("the tape is full");
            }
        }
    }

    static int readText(LicenceTexts x, int day, String text) {
        feed(x, text);
        return x.read(day);
    }

    /** A new object with one edition, from day 0 on. */
    static LicenceTexts with(String text) {
        LicenceTexts x = new LicenceTexts();
        if (readText(x, 0, text) < 0) {
            throw new AssertionError("not a text: " + text);
        }
        return x;
    }

    static String writtenText(LicenceTexts x) {
        StringBuilder s = new StringBuilder();
        for (int i = 0; i < 2000 && x.written(i) != LicenceTexts.NONE; i++) {
            s.append((char) x.written(i));
        }
        return s.toString();
    }

    static String repeated(String s, int n) {
        return s.repeat(n);
    }

    static void end() {
        System.out.println(done + " answers, " + wrong + " not as due");
        if (wrong != 0) {
            System.exit(1);
        }
    }
}
