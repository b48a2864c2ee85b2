/** Promises 10 to 14 at the edges that the document names: each number's range, the ends of a letter, its orders. */
final class LetterEdgeTests {
    private static final Class<IllegalStateException> NOT_NOW = IllegalStateException.class;
    private static final String MANY = "t1;".repeat(26);
    private static final int VALID = -1;

    private LetterEdgeTests() {
    }

    static void run() {
        rangesOfARegistration();
        rangesOfAFeast();
        rangesOfALine();
        rangesOfANote();
        rangesOfALending();
        rangesOfALeavingAndOfDays();
        leadingZeros();
        numbersThatRunOver();
        oneSign();
        everySignAtTheBeginning();
        signsThatOnlyLookAlike();
        lettersThatEndTooEarly();
        ordersWithoutSemicolons();
        fullLetters();
        oldSignsAreForgotten();
        breakAgeOfTheOrderBefore();
        firstMiddleAndLastOrder();
        ordersAtTheirRanges();
        daysOfOrders();
        heightsOfOrders();
        theLastSingerIsLent();
        theLastFeastIsSet();
        oneOrder();
        lettersAtTheLastDay();
        carryOutIsUndoneAtOnce();
    }

    private static Register with(String letter) {
        Register x = new Register();
        Calls.write(x, letter);
        return x;
    }

    private static void error(int want, String letter) {
        Checks.same("12: first error of " + letter, want, with(letter).letterError());
    }

    // ---- the ranges of numbers

    private static void rangesOfARegistration() {
        error(VALID, "j7h150r10-20");
        error(VALID, "j70h150r10-20");
        error(VALID, "j10h150r10-20");
        error(2, "j6h150r10-20");
        error(2, "j71h150r10-20");
        error(2, "j80h150r10-20");
        error(1, "j0h150r10-20");
        error(VALID, "j20h90r10-20");
        error(VALID, "j20h99r10-20");
        error(VALID, "j20h100r10-20");
        error(VALID, "j20h210r10-20");
        error(4, "j20h89r10-20");
        error(5, "j20h9r10-20");
        error(5, "j20h22r10-20");
        error(6, "j20h211r10-20");
        error(6, "j20h21r10-20");
        error(4, "j20h300r10-20");
        error(VALID, "j20h150r0-0");
        error(VALID, "j20h150r48-48");
        error(9, "j20h150r49-49");
        error(8, "j20h150r-20");
        error(9, "j20h150r50-50");
        error(12, "j20h150r10-49");
        error(11, "j20h150r10-");
        error(VALID, "j11h150r10-20b12");
        error(VALID, "j11h150r10-20b17");
        error(14, "j11h150r10-20b0");
        error(15, "j11h150r10-20b11");
        error(15, "j11h150r10-20b18");
        error(14, "j11h150r10-20b2");
        error(16, "j11h150r10-20b120");
        error(VALID, "j11h150r20-10");
    }

    private static void rangesOfAFeast() {
        error(VALID, "f1*1");
        error(VALID, "f9999*3");
        error(1, "f0*1");
        error(5, "f10000*1");
        error(3, "f1*0");
        error(3, "f1*4");
        error(4, "f1*11");
        error(1, "f*1");
        error(2, "f1;");
    }

    private static void rangesOfALine() {
        error(VALID, "l0.0=0r0-0");
        error(VALID, "l19.3=6r48-48");
        error(2, "l20.0=0r0-0");
        error(1, "l.0=0r0-0");
        error(3, "l0.4=0r0-0");
        error(4, "l0.00=0r0-0");
        error(5, "l0.0=7r0-0");
        error(6, "l0.0=10r0-0");
        error(8, "l0.0=0r49-48");
        error(10, "l0.0=0r0-49");
        error(VALID, "l0.0=0r5-4");
    }

    private static void rangesOfANote() {
        error(VALID, "n0:1-1");
        error(VALID, "n29:9999-9999");
        error(2, "n30:1-1");
        error(3, "n0:0-1");
        error(7, "n0:10000-1");
        error(5, "n0:1-0");
        error(9, "n0:1-10000");
        error(VALID, "n0:9999-1");
        error(VALID, "n0:1-9999");
    }

    private static void rangesOfALending() {
        error(VALID, "o0>0+1");
        error(VALID, "o29>4+90");
        error(2, "o30>0+1");
        error(3, "o0>5+1");
        error(5, "o0>0+0");
        error(6, "o0>0+91");
        error(7, "o0>0+900");
        error(3, "o0>+1");
    }

    private static void rangesOfALeavingAndOfDays() {
        error(VALID, "x0");
        error(VALID, "x29");
        error(2, "x30");
        error(1, "x-1");
        error(VALID, "t1");
        error(VALID, "t99");
        error(1, "t0");
        error(3, "t100");
        error(1, "t-1");
    }

    private static void leadingZeros() {
        error(1, "j07h150r10-20");
        error(4, "j20h090r10-20");
        error(9, "j20h150r00-20");
        error(9, "j20h150r05-20");
        error(12, "j20h150r10-020");
        error(14, "j20h150r10-20b012");
        error(1, "f01*1");
        error(3, "f1*01");
        error(2, "l00.0=0r0-0");
        error(4, "l0.01=0r0-0");
        error(6, "l0.0=01r0-0");
        error(2, "n00:1-1");
        error(3, "n0:01-1");
        error(5, "n0:1-01");
        error(2, "o01>0+1");
        error(4, "o0>00+1");
        error(5, "o0>0+01");
        error(2, "x00");
        error(2, "x05");
        error(1, "t01");
    }

    private static void numbersThatRunOver() {
        error(3, "t" + "9".repeat(79));
        error(2, "x" + "0".repeat(79));
        error(5, "f" + "1".repeat(79));
        error(3, "j7" + "0".repeat(78));
        error(7, "n0:" + "9".repeat(77));
        // 2 to the 32nd and one day more, which an int takes for 1.
        error(5, "f4294967297*1");
        error(3, "t4294967297");
    }

    // ---- the ends of letters

    private static void oneSign() {
        for (char kind : "jflnoxt".toCharArray()) {
            error(1, String.valueOf(kind));
            error(1, kind + ";");
            error(1, kind + "a");
        }
    }

    private static void everySignAtTheBeginning() {
        for (int sign = 0; sign < 65536; sign++) {
            Register x = new Register();
            x.type((char) sign);
            Checks.same("12: sign " + sign, "jflnoxt".indexOf(sign) >= 0 ? 1 : 0, x.letterError());
        }
    }

    /** Signs whose lower eight bits alone are right, at each place of a letter. */
    private static void signsThatOnlyLookAlike() {
        String letter = "j20h150r10-20b12;f99*2;l19.3=6r10-48;n29:12-99;o29>4+90;x29;t99";
        error(VALID, letter);
        for (int place = 0; place < letter.length(); place++) {
            char alike = (char) (letter.charAt(place) + 256);
            error(place, letter.substring(0, place) + alike + letter.substring(place + 1));
        }
    }

    private static void lettersThatEndTooEarly() {
        String[] orders = {"j20h150r10-20b12", "f99*2", "l19.3=6r10-48", "n29:12-99", "o29>4+90", "x29", "t99"};
        int[][] ends = {{12, 13, 16}, {5}, {12, 13}, {8, 9}, {7, 8}, {2, 3}, {2, 3}};
        for (int i = 0; i < orders.length; i++) {
            for (int length = 0; length <= orders[i].length(); length++) {
                int want = length;
                for (int end : ends[i]) {
                    want = end == length ? VALID : want;
                }
                error(want, orders[i].substring(0, length));
                error(want < 0 ? want : want + 3, "t9;" + orders[i].substring(0, length));
            }
        }
    }

    private static void ordersWithoutSemicolons() {
        error(2, "t1t1");
        error(3, "t1;;t1");
        error(0, ";t1");
        error(3, "t1;");
        error(2, "t1,t1");
        error(2, "t1 ;t1");
        error(3, "t1; t1");
        error(VALID, "t1;t1");
        error(VALID, "x2;x2;x2");
        error(5, "x2;x2x2");
    }

    /** A letter of eighty signs: as many orders "t1;" as there is room for, and what ends it. */
    private static String full(String tail) {
        return "t1;".repeat((80 - tail.length()) / 3) + tail;
    }

    private static void fullLetters() {
        String[] valid = {"t1", "x2", "f12*3", "n2:19-21", "o2>3+45;t99", "j9h150r9-20b17", "j12h150r10-20;t99"};
        for (String tail : valid) {
            fullLetter(VALID, tail);
        }
        String[] tooShort = {"j7", "j6", "f9", "l0", "n0", "o0", "f9999", "f999*", "o1>2+", "l0.0=0r1", "n2:9999-",
            "x12;x12;", "j9h150r10-20b1", "j12h150r10-20b17;"};
        for (String tail : tooShort) {
            fullLetter(80, tail);
        }
        String[] wrongAtLast = {"t0", "t;", "t?", "x-", "f12*0", "t99;;", "l0.0=0r;", "j9h150r10-20b9"};
        for (String tail : wrongAtLast) {
            fullLetter(79, tail);
        }
        fullLetter(78, ";;");
        fullLetter(78, "??");
    }

    private static void fullLetter(int want, String tail) {
        Register x = with(full(tail));
        Checks.refuses(x, NOT_NOW, "10: one sign more than " + tail, () -> x.type('1'));
        Checks.same("12: first error of a full letter, " + tail, want, x.letterError());
        Checks.same("11: length of a full letter, " + tail, 80, x.clearLetter());
    }

    private static void oldSignsAreForgotten() {
        Register x = with("t15;t15");
        x.clearLetter();
        Checks.same("12: nothing is left", 0, x.letterError());
        x.type('t');
        Checks.same("12: the old number is forgotten", 1, x.letterError());
        x.type('1');
        Checks.same("12: the old second sign is forgotten", VALID, x.letterError());
        Checks.same("14: one order is left", 1, x.carryOut());
        Checks.same("50: one day", 1, x.day());
        Calls.write(x, "j11h150r10-20b12");
        Calls.write(x, "j11h150r10-20");
        Checks.same("12: the old break age is forgotten", VALID, x.letterError());
        x.carryOut();
        Checks.same("14: no break age", -1, x.breakDayOf(0));
        Calls.write(x, "t1;t1;t1");
        Calls.write(x, "t1;");
        Checks.same("12: the old orders are forgotten", 3, x.letterError());
    }

    // ---- the orders

    private static void breakAgeOfTheOrderBefore() {
        Register x = with("j11h150r10-20b12;j11h150r10-20;j11h150r10-20b13");
        x.carryOut();
        Checks.same("14: breaks at 12", 360, x.breakDayOf(0));
        Checks.same("14: never breaks", -1, x.breakDayOf(1));
        Checks.same("14: breaks at 13", 720, x.breakDayOf(2));
    }

    private static void firstMiddleAndLastOrder() {
        Checks.same("13: the first one", 0, with("x0" + ";t1".repeat(26)).impossibleOrder());
        Checks.same("13: the one between", 13, with("t1;".repeat(13) + "x0" + ";t1".repeat(13)).impossibleOrder());
        Checks.same("13: the last one", 26, with(MANY + "x0").impossibleOrder());
        Checks.same("13: the first of two", 1, with("t1;x0;x1;t1").impossibleOrder());
        Checks.same("13: none", -1, with(MANY + "t1").impossibleOrder());
        Checks.same("14: twenty-seven", 27, with(MANY + "t1").carryOut());
        Register x = with(MANY + "x0");
        Checks.refuses(x, NOT_NOW, "14: the last one", () -> x.carryOut());
    }

    /** What a letter can say, but a call refuses: the last that can be done, and the first that cannot. */
    private static void ordersAtTheirRanges() {
        String singer = "j20h150r10-20;";
        Checks.same("13: lowest is highest", -1, with("j20h150r20-20").impossibleOrder());
        Checks.same("13: lowest above highest", 0, with("j20h150r21-20").impossibleOrder());
        Checks.same("13: line, lowest is highest", -1, with("f1*1;l0.0=6r48-48").impossibleOrder());
        Checks.same("13: line, lowest above highest", 1, with("f1*1;l0.0=6r48-47").impossibleOrder());
        Checks.same("13: no such feast", 1, with("f1*1;l1.0=6r48-48").impossibleOrder());
        Checks.same("13: note of one day", -1, with(singer + "n0:9-9").impossibleOrder());
        Checks.same("13: last before first", 1, with(singer + "n0:9-8").impossibleOrder());
        Checks.same("13: note of 61 days", -1, with(singer + "n0:9-69").impossibleOrder());
        Checks.same("13: note of 62 days", 1, with(singer + "n0:9-70").impossibleOrder());
        Checks.same("13: note of no such singer", 1, with(singer + "n1:9-9").impossibleOrder());
        Checks.same("13: notes overlap", 2, with(singer + "n0:9-12;n0:12-12").impossibleOrder());
        Checks.same("13: notes touch", -1, with(singer + "n0:9-12;n0:13-13;n0:8-8").impossibleOrder());
        Checks.same("13: lending of no such singer", 1, with(singer + "o1>0+1").impossibleOrder());
        Checks.same("13: lent twice", 2, with(singer + "o0>4+90;o0>0+1").impossibleOrder());
        Checks.same("13: lent, and has left", -1, with(singer + "o0>4+90;x0").impossibleOrder());
        Checks.same("13: has left, and is lent", 2, with(singer + "x0;o0>4+90").impossibleOrder());
        Checks.same("13: has left, and is excused", 2, with(singer + "x0;n0:9-9").impossibleOrder());
        Checks.same("13: leaves twice", 2, with(singer + "x0;x0").impossibleOrder());
    }

    private static void daysOfOrders() {
        Checks.same("13: feast on the next day", -1, with("t9;f10*1").impossibleOrder());
        Checks.same("13: feast of today", 1, with("t9;f9*1").impossibleOrder());
        Checks.same("13: two feasts on a day", 1, with("f9*1;f9*2").impossibleOrder());
        Checks.same("13: line on the day before", -1, with("f9*1;t8;l0.0=1r0-0").impossibleOrder());
        Checks.same("13: line on the day", 2, with("f9*1;t9;l0.0=1r0-0").impossibleOrder());
        Checks.same("13: note from the next day", -1, with("j20h150r10-20;t9;n0:10-10").impossibleOrder());
        Checks.same("13: note from today", 2, with("j20h150r10-20;t9;n0:9-10").impossibleOrder());
        Checks.same("13: away on the last day", 3, with("j20h150r10-20;o0>0+5;t5;o0>0+5").impossibleOrder());
        Checks.same("13: back on the day after", -1, with("j20h150r10-20;o0>0+5;t6;o0>0+5").impossibleOrder());
    }

    private static void heightsOfOrders() {
        Register x = with("j20h210r10-30;j30h90r20-30;f1*1;l0.0=2r20-30");
        x.carryOut();
        Checks.same("14: the highest one sits behind", 1, x.seatOf(0, 0));
        Checks.same("14: the lowest one sits before", 0, x.seatOf(0, 1));
    }

    private static void theLastSingerIsLent() {
        Register x = new Register();
        for (int i = 0; i < 30; i++) {
            x.register(20, 150, 10, 30, 0);
        }
        Calls.write(x, "o29>4+90;o28>0+1;n29:9999-9999;x27");
        Checks.same("13: the thirtieth singer", -1, x.impossibleOrder());
        Checks.same("14: the thirtieth singer", 4, x.carryOut());
        Checks.same("26: the thirtieth singer", 90, x.awayUntil(29));
        Checks.same("26: the one before", 1, x.awayUntil(28));
        Checks.same("44: lent for 90 days", 1, x.favoursOf(4));
        Checks.same("44: lent for a day", 1, x.favoursOf(0));
        Checks.same("27: the last day", true, x.isExcused(29, 9999));
        Checks.same("19: has left", false, x.isInChoir(27));
    }

    private static void theLastFeastIsSet() {
        Register x = new Register();
        x.register(20, 150, 7, 41, 0);
        for (int feast = 0; feast < 20; feast++) {
            x.announce(feast + 1, 1);
        }
        Calls.write(x, "l19.3=5r7-41;l18.0=1r7-42;l17.1=2r6-41");
        Checks.same("14: three lines", 3, x.carryOut());
        Checks.same("33: the last line of the last feast", 5, x.placesIn(19, 3));
        Checks.same("34: it just fits", 0, x.whyNot(19, 0, 3));
        Checks.same("34: its highest note", ChoirRegister.TOO_HIGH, x.whyNot(18, 0, 0));
        Checks.same("34: its lowest note", ChoirRegister.TOO_LOW, x.whyNot(17, 0, 1));
    }

    private static void oneOrder() {
        Register x = with("t1");
        Checks.same("13: none", -1, x.impossibleOrder());
        Checks.same("14: one", 1, x.carryOut());
        Checks.same("51: one action", 1, x.recordedStates());
        Checks.same("14: again, as the letter stays", 1, x.carryOut());
        Checks.same("50: two days", 2, x.day());
        Checks.same("15: one is left", 1, x.undo());
        Checks.same("50: one day", 1, x.day());
        Checks.same("11: the letter stays", 2, x.clearLetter());
        Checks.refuses(x, NOT_NOW, "13: empty", () -> x.impossibleOrder());
        Checks.refuses(x, NOT_NOW, "14: empty", () -> x.carryOut());
        Checks.same("12: empty", 0, x.letterError());
    }

    private static void lettersAtTheLastDay() {
        Register x = new Register();
        Calls.pass(x, 9997);
        Calls.write(x, "t1;f9999*1;t1;t1");
        Checks.same("13: after the last day", 3, x.impossibleOrder());
        Calls.write(x, "t1;f9999*1;t1");
        Checks.same("14: to the last day", 3, x.carryOut());
        Checks.same("50: the last day", 9999, x.day());
        Checks.same("32: held", true, x.isHeld(0));
        Calls.write(x, "t1");
        Checks.same("13: no day is left", 0, x.impossibleOrder());
        Calls.write(x, "f9999*1");
        Checks.same("13: no later day is left", 0, x.impossibleOrder());
        Calls.write(x, "j20h150r10-20");
        Checks.same("13: a singer may still come", -1, x.impossibleOrder());
    }

    private static void carryOutIsUndoneAtOnce() {
        Register x = new Register();
        for (int i = 0; i < 4; i++) {
            x.passDays(1);
        }
        String before = Facts.ofState(x);
        Calls.write(x, "j20h150r10-20;f9*1;l0.0=2r10-20;o0>0+2;n0:20-21;t9");
        Checks.same("14: six orders", 6, x.carryOut());
        Checks.same("51: four states", 4, x.recordedStates());
        Checks.same("28: sang once", 1, x.feastsOf(0));
        Checks.same("15: three are left", 3, x.undo());
        Checks.that("15: all six are undone", before.equals(Facts.ofState(x)));
        Checks.same("15: the action before", 2, x.undo());
        Checks.same("50: the day before", 3, x.day());
    }
}
