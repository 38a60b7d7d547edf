/** What the tests share: comparing an answer with the one that is due, and telling a text. */
final class Due {
    private static int wrong = 0;
    private static int compared = 0;
    // What of the document is being tested: told ahead of each answer that is not the due one.
    private static String about = "";

    private Due() {
    }

    static void about(String what) {
        about = what;
    }

    static int compared() {
        return compared;
    }

    static void is(String call, long got, long want) {
        compared++;
        if (got == want) return;
        wrong++;
        System.out.println(about + call + " answered " + got + ", due is " + want);
    }

    static void holds(String what, boolean so) {
        compared++;
        if (so) return;
        wrong++;
        System.out.println(about + "does not hold: " + what);
    }

    /** Puts a text's codes on a new row of a lane. */
    static void write(RangeRules x, int sheet, int lane, String text) {
        is("sheet for " + text, x.sheet(sheet, lane, text.length()), 1);
        for (int i = 0; i < text.length(); i++) {
            is("put for " + text, x.put(sheet, i, text.charAt(i)), 1);
        }
    }

    /** Writes a text on sheet 0 and gives what rules answers to it. */
    static int rules(RangeRules x, String text) {
        write(x, 0, 0, text);
        return x.rules(0, 0, 0, text.length());
    }

    /** A new object with the rules of a text that is taken. */
    static RangeRules with(String text) {
        RangeRules x = new RangeRules();
        is("rules of " + text, rules(x, text), (text.length() - 1) / 6);
        return x;
    }

    /** Puts numbers on a new row of a lane. */
    static void row(RangeRules x, int sheet, int lane, int... numbers) {
        is("sheet for a row", x.sheet(sheet, lane, numbers.length), 1);
        for (int i = 0; i < numbers.length; i++) {
            is("put for a row", x.put(sheet, i, numbers[i]), 1);
        }
    }

    static void end(String test) {
        System.out.println(test + ": " + compared + " compared, " + wrong + " wrong");
        if (wrong != 0) System.exit(1);
    }
}
