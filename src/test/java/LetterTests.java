import java.util.regex.Matcher;
import java.util.regex.Pattern;

/** Promises 10 to 14: letters. */
final class LetterTests {
    private static final Class<IllegalStateException> NOT_NOW = IllegalStateException.class;
    private static final String[] ORDERS = {
        "j7h90r0-0", "j70h210r48-48b12", "j12h150r10-20b17", "j9h100r48-0", "f1*1", "f9999*3", "l0.0=0r0-0",
        "l19.3=6r48-48", "n0:1-1", "n29:9999-9999", "n5:20-10", "o0>0+1", "o29>4+90", "x0", "x29", "t1", "t99"};
    private static final String SIGNS = "jflnoxthrb-*.=:>+;0123456789 zJ,";

    private LetterTests() {
    }

    static void run() {
        typeAnswersTheLength();
        clearLetterEmpties();
        firstErrorsByHand();
        firstErrorsOfChangedLetters();
        firstErrorsOfEveryNumber();
        impossibleOrders();
        carryOutIsOneAction();
        carryOutRefuses();
        ordersOfEveryKind();
        lettersDoNotBelongToTheState();
    }

    private static void typeAnswersTheLength() {
        Register x = new Register();
        char[] any = {'j', ';', ' ', (char) 0, (char) 127, (char) 255, (char) 256, (char) 65535};
        for (int i = 0; i < 80; i++) {
            Checks.same("10: length", i + 1, x.type(any[i % any.length]));
        }
        Checks.refuses(x, NOT_NOW, "10: the eighty-first sign", () -> x.type('x'));
        Checks.same("10: no action", 0, x.recordedStates());
        Checks.same("11: eighty signs", 80, x.clearLetter());
        Checks.same("10: again", 1, x.type('t'));
        x.type('1');
        Checks.same("10: the old signs are gone", -1, x.letterError());
    }

    private static void clearLetterEmpties() {
        Register x = new Register();
        Checks.same("11: empty", 0, x.clearLetter());
        Calls.write(x, "t5;");
        Checks.same("11: three signs", 3, x.clearLetter());
        Checks.same("11: empty again", 0, x.clearLetter());
        Checks.same("12: empty", 0, x.letterError());
        Checks.same("11: no action", 0, x.recordedStates());
    }

    private static void checkError(String letter, int want) {
        Register x = new Register();
        Calls.write(x, letter);
        Checks.same("12: first error of " + letter, want, x.letterError());
    }

    private static void firstErrorsByHand() {
        for (String order : ORDERS) {
            checkError(order, -1);
            checkError(order + ";t1", -1);
            checkError(order + ";", order.length() + 1);
            checkError(order + " ", order.length());
            checkError(";" + order, 0);
        }
        checkError("", 0);
        checkError("j6", 2);
        checkError("j6h", 2);
        checkError("j71", 2);
        checkError("j07", 1);
        checkError("j12h8", 4);
        checkError("j12h90", 6);
        checkError("j12h9r", 5);
        checkError("j12h211", 6);
        checkError("j12h150r49", 9);
        checkError("j12h150r00", 9);
        checkError("j12h150r4-40b", 13);
        checkError("j12h150r4-40b1;", 14);
        checkError("j12h150r4-40b18", 14);
        checkError("j12h150r4-40b12b12", 15);
        checkError("f10000", 5);
        checkError("t100", 3);
        checkError("t0", 1);
        checkError("x30", 2);
        checkError("x3;;", 3);
        checkError("X3", 0);
        checkError("x" + (char) (256 + '3'), 1);
        checkError(((char) (256 + 'x')) + "3", 0);
    }

    private static String range(int least, int greatest) {
        StringBuilder text = new StringBuilder("(?:");
        for (int number = least; number <= greatest; number++) {
            text.append(number == least ? "" : "|").append(number);
        }
        return text.append(")").toString();
    }

    private static Pattern grammar() {
        String day = "[1-9][0-9]{0,3}";
        String span = "r" + range(0, 48) + "-" + range(0, 48);
        String order = "(?:j" + range(7, 70) + "h" + range(90, 210) + span + "(?:b" + range(12, 17) + ")?"
            + "|f" + day + "\\*[1-3]"
            + "|l" + range(0, 19) + "\\.[0-3]=[0-6]" + span
            + "|n" + range(0, 29) + ":" + day + "-" + day
            + "|o" + range(0, 29) + ">[0-4]\\+" + range(1, 90)
            + "|x" + range(0, 29) + "|t" + range(1, 99) + ")";
        return Pattern.compile(order + "(?:;" + order + ")*");
    }

    // A matcher that fails, but has looked for more signs at the end, could still have matched a longer letter.
    private static int errorByGrammar(Pattern grammar, String letter) {
        for (int length = 1; length <= letter.length(); length++) {
            Matcher matcher = grammar.matcher(letter.substring(0, length));
            if (!matcher.matches() && !matcher.hitEnd()) {
                return length - 1;
            }
        }
        return grammar.matcher(letter).matches() ? -1 : letter.length();
    }

    private static void firstErrorsOfChangedLetters() {
        Pattern grammar = grammar();
        Lot lot = new Lot(20261119);
        for (int round = 0; round < 6000; round++) {
            StringBuilder letter = new StringBuilder(ORDERS[lot.below(ORDERS.length)]);
            for (int more = lot.below(3); more > 0; more--) {
                letter.append(';').append(ORDERS[lot.below(ORDERS.length)]);
            }
            for (int changes = lot.below(3); changes > 0; changes--) {
                change(letter, lot);
            }
            checkError(letter.toString(), errorByGrammar(grammar, letter.toString()));
        }
    }

    private static void change(StringBuilder letter, Lot lot) {
        int place = lot.below(letter.length() + 1);
        char sign = SIGNS.charAt(lot.below(SIGNS.length()));
        int kind = lot.below(3);
        if (kind == 0 || place == letter.length()) {
            letter.insert(place, sign);
        } else if (kind == 1) {
            letter.setCharAt(place, sign);
        } else {
            letter.deleteCharAt(place);
        }
    }

    private static void firstErrorsOfEveryNumber() {
        Pattern grammar = grammar();
        String[] before = {"j", "j7h", "j7h90r", "j7h90r0-", "j7h90r0-0b", "f", "f1*", "l", "l0.", "l0.0=",
            "l0.0=0r", "l0.0=0r0-", "n", "n0:", "n0:1-", "o", "o0>", "o0>0+", "x", "t"};
        for (String start : before) {
            for (int number = 0; number <= 300; number++) {
                String letter = start + number + ";";
                checkError(letter, errorByGrammar(grammar, letter));
            }
            for (String number : new String[] {"00", "01", "999", "9999", "10000", "99999"}) {
                checkError(start + number, errorByGrammar(grammar, start + number));
            }
        }
    }

    private static void checkImpossible(Register x, String letter, int want) {
        Calls.write(x, letter);
        String before = Facts.of(x);
        Checks.same("13: " + letter, want, x.impossibleOrder());
        Checks.that("13: " + letter + " changed something", before.equals(Facts.of(x)));
    }

    private static void impossibleOrders() {
        Register x = new Register();
        checkImpossible(x, "j11h140r24-40b12", -1);
        checkImpossible(x, "j11h140r24-20b12", 0);
        checkImpossible(x, "x0", 0);
        checkImpossible(x, "j11h140r24-40;x0", -1);
        checkImpossible(x, "j11h140r24-40;x0;x0", 2);
        checkImpossible(x, "j11h140r24-40;x1;x0", 1);
        checkImpossible(x, "t5;f5*1", 1);
        checkImpossible(x, "t5;f6*1;f6*2", 2);
        checkImpossible(x, "f6*1;t6;l0.0=1r0-0", 2);
        checkImpossible(x, "f6*1;t5;l0.0=1r0-0", -1);
        checkImpossible(x, "l0.0=1r0-0", 0);
        checkImpossible(x, "f6*1;l0.0=1r5-4", 1);
        checkImpossible(x, "j11h140r24-40;n0:5-4", 1);
        checkImpossible(x, "j11h140r24-40;n0:5-65;n0:66-66;n0:65-65", 3);
        checkImpossible(x, "j11h140r24-40;n0:5-66", 1);
        checkImpossible(x, "j11h140r24-40;o0>1+5;t5;o0>1+5", 3);
        checkImpossible(x, "j11h140r24-40;o0>1+5;t6;o0>1+5", -1);
        checkImpossible(x, "t99;t99", -1);
        while (x.day() < 9900) {
            x.passDays(99);
        }
        checkImpossible(x, "t99", -1);
        checkImpossible(x, "t99;t1", 1);
        for (String letter : new String[] {"", "t", "t0", "t1;", "q"}) {
            Calls.write(x, letter);
            Checks.refuses(x, NOT_NOW, "13: " + letter, () -> x.impossibleOrder());
            Checks.refuses(x, NOT_NOW, "14: " + letter, () -> x.carryOut());
        }
    }

    private static void carryOutIsOneAction() {
        Register x = new Register();
        x.passDays(3);
        Calls.write(x, "j11h140r24-40b12;j40h170r8-30;f9*2;l0.1=2r10-20;t7");
        Checks.same("14: five orders", 5, x.carryOut());
        Checks.same("14: recorded once", 2, x.recordedStates());
        Checks.same("14: singers", 2, x.singers());
        Checks.same("14: day", 10, x.day());
        Checks.same("14: held", true, x.isHeld(0));
        Checks.same("14: the letter stays", -1, x.letterError());
        Checks.same("14: not twice", 2, x.impossibleOrder());
        x.undo();
        Checks.same("14: all is undone", 0, x.singers());
        Checks.same("14: all is undone", 3, x.day());
        Checks.same("14: the letter still stays", 5, x.carryOut());
        Checks.same("14: its length", 50, x.clearLetter());
    }

    private static void carryOutRefuses() {
        Register x = new Register();
        x.register(20, 150, 10, 20, 0);
        for (String letter : new String[] {"x1", "j20h150r10-20;x0;x0", "t5;f5*1", "j20h150r10-20;x0;"}) {
            Calls.write(x, letter);
            Checks.refuses(x, NOT_NOW, "14: " + letter, () -> x.carryOut());
        }
        Calls.write(x, "j20h150r10-20;x1;x1");
        Checks.same("14: what an order cannot do, is not half done", 2, x.impossibleOrder());
        Calls.write(x, "t1");
        Checks.same("14: after all this", 1, x.carryOut());
        Checks.same("14: one singer", 1, x.singers());
    }

    private static void ordersOfEveryKind() {
        Register x = new Register();
        Register y = new Register();
        x.register(11, 140, 24, 40, 13);
        x.register(20, 170, 8, 30, 0);
        x.announce(30, 3);
        x.setLine(0, 2, 4, 9, 29);
        x.excuse(1, 29, 31);
        x.lend(0, 4, 17);
        x.passDays(20);
        x.leave(0);
        Calls.write(y, "j11h140r24-40b13;j20h170r8-30;f30*3;l0.2=4r9-29;n1:29-31;o0>4+17;t20;x0");
        Checks.same("14: eight orders", 8, y.carryOut());
        Checks.that("14: the same as the calls", Facts.ofState(x).equals(Facts.ofState(y)));
    }

    private static void lettersDoNotBelongToTheState() {
        Register x = new Register();
        x.takeSnapshot();
        x.passDays(1);
        Calls.write(x, "t1;t1;t1;t1;t1;t1;t1;t1;t1;t1;t1;t1;t1;t1;t1;t1;t1;t1;t1;t1;t1;t1;t1;t1;t1;t12");
        Checks.same("14: twenty-six orders", 26, x.carryOut());
        x.undo();
        x.undo();
        x.restoreSnapshot();
        Checks.same("15, 17: the letter stays", 78, x.clearLetter());
        x.undo();
        Checks.same("15: the letter stays empty", 0, x.clearLetter());
    }
}
