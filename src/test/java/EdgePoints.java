/** Part 2 of the terms, up to the day, with promises 8 and 9: winners, and what is asked for a point. */
final class EdgePoints {
    private static final int OUTSIDE = RangeRules.OUTSIDE, STATE = RangeRules.STATE, NONE = RangeRules.NONE;
    private static final int NOBODY = 7;
    private static final int LEAST = Integer.MIN_VALUE, MOST = Integer.MAX_VALUE;
    private static final String NO_RULES = Scene.NO_RULES, THREE = Scene.THREE, SEVEN = Scene.SEVEN;
    private static final String ALL_ASK_ON = "q;PJ1aa;BJ1bb;WJ1cc;PJ1dd;BJ1ee;WJ1ff;PJ1gg";

    private EdgePoints() {
    }

    static void all() {
        firstAnswers();
        gives();
        denies();
        asksOn();
        worthTogether();
        deniesBecause();
        nobody();
        fromTheFirstOn();
        denials();
        winner();
        winnerNone();
        winnerOutside();
        winnerWithoutRules();
        askWorth();
        askHowManyDenials();
        askWhose();
        askOutside();
        askWithoutRules();
    }

    private static void asked(RangeRules x, int point, int worth, int... whose) {
        Scene.answers(x, worth, "ask", point, 0);
        Scene.answers(x, whose.length, "ask", point, 1);
        for (int k = 0; k <= 7; k++) Scene.answers(x, k < whose.length ? whose[k] : NONE, "ask", point, 10 + k);
    }

    // ---- the terms

    private static void firstAnswers() {
        Document.part(2, "ASKING for a number x from RULE k on: of the RULES from k on "
            + "the first one that HAS x answers.");
        // 1 asks on for d, that 0 has too; but the first from 2 on is 3.
        RangeRules x = Due.with("q;PG9dd;PJ1cc;PG8ee;PG7dd;PG6dd");
        asked(x, 2, 1 + 7);
        asked(x, 3, 9);
    }

    private static void gives() {
        Document.part(2, "G: it is worth its WORTH.");
        asked(Due.with("q;PG1aa"), 0, 1);
        asked(Due.with("q;BG9zz"), 25, 10);
        asked(Due.with("q;WG9az"), 25, 18);
    }

    private static void denies() {
        Document.part(2, "D: it DENIES.");
        asked(Due.with("q;WD9az;PG1az"), 0, NONE, 0);
        asked(Due.with("q;PG1ay;WD9az;PG1az"), 25, NONE, 1);
    }

    private static void asksOn() {
        Document.part(2, "J: it ASKS for x and its NUMBER together, from the RULE behind it on:");
        asked(Due.with("q;PJ1aa;PG5bb"), 0, 6);
        asked(Due.with("q;PJ9aa;PG5jj"), 0, 14);
        // By its number, not by its worth (10, 18).
        asked(Due.with("q;BJ9aa;PG5jj;PD1kk"), 0, 15);
        asked(Due.with("q;WJ9aa;PG5jj;PD1ss"), 0, 23);
        // It does not ask itself, nor those in front of it.
        asked(Due.with("q;PJ1ab;PD1cc"), 0, NONE, 0, NOBODY);
        asked(Due.with("q;PG5bb;PJ1aa"), 0, NONE, 1, NOBODY);
        // From z on there is no point further along, and no way round to a.
        asked(Due.with("q;PJ1zz;PG5az"), 25, NONE, 0, NOBODY);
        asked(Due.with("q;PJ9rr;PG5az"), 17, NONE, 0, NOBODY);
        asked(Due.with("q;PJ9qq;PG5az"), 16, 14);
    }

    private static void worthTogether() {
        Document.part(2, "if that is worth anything, it is worth that and its own WORTH together;");
        asked(Due.with("q;BJ1aa;WJ2bb;PG3dd"), 0, 2 + 4 + 3);
        asked(Due.with("q;WJ1az;WJ1az;WJ1az;WJ1az;WJ1az;WJ1az;WG9az"), 0, 6 * 2 + 18);
        asked(Due.with("q;WJ9aa;WJ9jj;WJ1ss;WJ2tt;WJ3vv;WJ1yy;WG9zz"), 0, 18 + 18 + 2 + 4 + 6 + 2 + 18);
    }

    private static void deniesBecause() {
        Document.part(2, "if that is DENIED, it DENIES because of that.");
        asked(Due.with("q;PJ1aa;PD5bb"), 0, NONE, 0, 1);
        asked(Due.with("q;PJ1aa;PJ1bb;PD5cc"), 0, NONE, 0, 1, 2);
    }

    private static void nobody() {
        Document.part(2, "If there is no such RULE, NOBODY (7) DENIES.");
        asked(Due.with("q;PG5bb"), 0, NONE, NOBODY);
        asked(Due.with("q;PG5bb"), 2, NONE, NOBODY);
        asked(Due.with("q;PJ5bb"), 1, NONE, 0, NOBODY);
        asked(Due.with(ALL_ASK_ON), 6, NONE, 6, NOBODY);
        asked(Due.with(ALL_ASK_ON), 7, NONE, NOBODY);
    }

    private static void fromTheFirstOn() {
        Document.part(2, "A POINT is ASKED for from RULE 0 on.");
        asked(Due.with("q;PG5aa;PG6aa"), 0, 5);
        asked(Due.with("q;PD5aa;PG6aa"), 0, NONE, 0);
    }

    private static void denials() {
        Document.part(2, "Its DENIALS, if it is DENIED: first that of whoever answered (the WINNER, or NOBODY), "
            + "then that because of which it DENIES, and so on.");
        asked(Due.with(ALL_ASK_ON), 0, NONE, 0, 1, 2, 3, 4, 5, 6, NOBODY);
        asked(Due.with(ALL_ASK_ON), 3, NONE, 3, 4, 5, 6, NOBODY);
        asked(Due.with("q;PJ1aa;BJ1bb;WJ1cc;PJ1dd;BJ1ee;WJ1ff;PD1gg"), 0, NONE, 0, 1, 2, 3, 4, 5, 6);
        asked(Due.with("q;PJ1aa;BJ1bb;WJ1cc;PJ1dd;BJ1ee;WJ1ff;PG1gg"), 0, 1 + 2 + 2 + 1 + 2 + 2 + 1);
        asked(Due.with("q;PG5bb"), 0, NONE, NOBODY);
    }

    // ---- promise 8

    private static void winner() {
        Document.promise(8, "WINNER of a POINT;");
        int[] dues = {0, 0, 0, 1, 2, 2, 2, 2, 3, 3, 3, 3, 4, 5};
        for (int p = 0; p < dues.length; p++) Scene.tellsOnly(SEVEN, dues[p], "winner", p);
        Scene.tellsOnly(SEVEN, 5, "winner", 25);
        Due.is("rule 0", Due.with("q;PG1aa").winner(0), 0);
        Due.is("rule 6", Due.with("q;PG1aa;PG1aa;PG1aa;PG1aa;PG1aa;PG1aa;PG1zz").winner(25), 6);
    }

    private static void winnerNone() {
        Document.promise(8, "NONE.");
        RangeRules x = Due.with("q;PG1by");
        Due.is("ahead of low", x.winner(0), NONE);
        Due.is("low", x.winner(1), 0);
        Due.is("high", x.winner(24), 0);
        Due.is("behind high", x.winner(25), NONE);
    }

    private static void winnerOutside() {
        Document.promise(8, "OUTSIDE;");
        for (int p : new int[] {LEAST, -1, 26, MOST}) {
            Scene.refuses(SEVEN, OUTSIDE, "winner", p);
            Scene.refuses(NO_RULES, OUTSIDE, "winner", p);
        }
    }

    private static void winnerWithoutRules() {
        Document.promise(8, "STATE: there are no RULES.");
        for (int p : new int[] {0, 25}) Scene.refuses(NO_RULES, STATE, "winner", p);
    }

    // ---- promise 9

    private static void askWorth() {
        Document.promise(9, "What a POINT is worth (what 0; NONE: it is DENIED),");
        int[] dues = {1, 1, 1, NONE, 10, 10, 10, 10, 4, 4, 4, 4, 18, 12};
        for (int p = 0; p < dues.length; p++) Scene.tellsOnly(SEVEN, dues[p], "ask", p, 0);
        Scene.tellsOnly(SEVEN, 12, "ask", 25, 0);
        Scene.tellsOnly(THREE, NONE, "ask", 25, 0);
    }

    private static void askHowManyDenials() {
        Document.promise(9, "how many DENIALS it has (1; 0: it is not DENIED),");
        Scene.tellsOnly(THREE, 0, "ask", 0, 1);
        Scene.tellsOnly(THREE, 2, "ask", 7, 1);
        Scene.tellsOnly(THREE, 0, "ask", 8, 1);
        Scene.tellsOnly(THREE, 1, "ask", 9, 1);
        Scene.tellsOnly(ALL_ASK_ON, 8, "ask", 0, 1);
        Scene.tellsOnly(ALL_ASK_ON, 1, "ask", 25, 1);
    }

    private static void askWhose() {
        Document.promise(9, "whose the k-th one is (10 and k, from 0 on; 7: NOBODY's; NONE: there are not so many).");
        for (int k = 0; k <= 7; k++) Scene.tellsOnly(ALL_ASK_ON, k, "ask", 0, 10 + k);
        Scene.tellsOnly(ALL_ASK_ON, 6, "ask", 1, 15);
        Scene.tellsOnly(ALL_ASK_ON, NOBODY, "ask", 1, 16);
        Scene.tellsOnly(ALL_ASK_ON, NONE, "ask", 1, 17);
        Scene.tellsOnly(ALL_ASK_ON, NOBODY, "ask", 25, 10);
        Scene.tellsOnly(ALL_ASK_ON, NONE, "ask", 25, 11);
        // One that is not denied has none, though others were asked for it.
        Scene.tellsOnly(THREE, NONE, "ask", 0, 10);
        Scene.tellsOnly(THREE, NONE, "ask", 0, 17);
    }

    private static void askOutside() {
        Document.promise(9, "OUTSIDE: the POINT, what (0, 1, 10 .. 17);");
        for (int p : new int[] {LEAST, -1, 26, MOST}) {
            Scene.refuses(SEVEN, OUTSIDE, "ask", p, 0);
            Scene.refuses(SEVEN, OUTSIDE, "ask", p, 17);
            Scene.refuses(NO_RULES, OUTSIDE, "ask", p, 0);
        }
        for (int what : new int[] {LEAST, -1, 2, 9, 18, MOST}) {
            Scene.refuses(SEVEN, OUTSIDE, "ask", 0, what);
            Scene.refuses(NO_RULES, OUTSIDE, "ask", 0, what);
        }
    }

    private static void askWithoutRules() {
        Document.promise(9, "STATE: there are no RULES.");
        for (int what : new int[] {0, 1, 10, 17}) Scene.refuses(NO_RULES, STATE, "ask", 25, what);
    }
}
