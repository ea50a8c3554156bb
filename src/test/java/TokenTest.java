/** The terms that draw, fault and faultAt lean on: blanks, comments, barred characters, numbers, operators. */
public final class TokenTest {
    private static final Check CHECK = new Check();

    public static void main(String[] args) {
        blanks();
        comments();
        barredCharacters();
        numbers();
        operatorNames();
        CHECK.end();
    }

    private static void blanks() {
        CHECK.dueNoFault("");
        CHECK.dueNoFault(" \t\n\f\r ");
        CHECK.dueNoFault("1\tg\n2\fg\r3 g");
        CHECK.dueFault("1\u000bg", 1, 0);
        CHECK.dueFault("1 \u000bg", 2, 2);
        CHECK.dueFault("q\u0001Q", 2, 0);
        CHECK.dueFault("1 \u00a0 g", 2, 2);
        CHECK.dueFault(" \b", 2, 1);
    }

    private static void comments() {
        CHECK.dueNoFault("%");
        CHECK.dueNoFault("% ( ) < > [ ] { } / x 12345 %% f");
        CHECK.dueNoFault("1%2\ng");
        CHECK.dueNoFault("1%2\rg");
        CHECK.dueNoFault("q%\nQ%");
        CHECK.dueFault("q%\nx", 2, 3);
        CHECK.dueFault("%\f\t x\n x", 2, 7);
        CHECK.dueFault("q%Q", 9, 3);
        CHECK.dueFault("1%2%3\n%4\r5 g", 3, 11);
        CHECK.dueFault("r%\ne", 2, 0);
        CHECK.dueFault("5 % g", 3, 5);
    }

    private static void barredCharacters() {
        for (char barred : "()<>[]{}/".toCharArray()) {
            CHECK.dueFault(String.valueOf(barred), 1, 0);
            CHECK.dueFault("  " + barred + "x", 1, 2);
            CHECK.dueFault("12" + barred, 1, 2);
            CHECK.dueFault("q" + barred + "Q", 1, 1);
            CHECK.dueFault("x" + barred, 2, 0);
            CHECK.dueFault("1 q" + barred, 3, 2);
        }
        for (char open : "!\"#$&'*,.:;=?@\\^_`|~\u007f\u0080\u00ff".toCharArray()) {
            CHECK.dueFault("q Q" + open, 2, 2);
            CHECK.dueFault(" " + open, 2, 1);
        }
    }

    private static void numbers() {
        for (String number : new String[] {"0", "+0", "-0", "0000", "+0255", "255", "0007", "+7"}) {
            CHECK.dueNoFault(number + " g");
        }
        for (String bad : new String[] {"+", "-", "+-1", "--1", "12345", "-12345", "00000", "1.5", "1e", "1g", "0x1", "1-",
            "1+1", "5*", "-q", "+.1", "1\u00b2", "12345678901234567890", "9:", "9;"}) {
            CHECK.dueFault(bad, 1, 0);
            CHECK.dueFault("7 " + bad + " g", 1, 2);
            CHECK.dueFault("q\n" + bad + "(", 1, 2);
        }
        CHECK.dueFault("-1 g", 4, 3);
        CHECK.dueFault("9999 g", 4, 5);
        CHECK.dueFault(".5 g", 2, 0);
        CHECK.duePicture("+7 g -1 -01 +3 0002 re f", "...", "77.");
        CHECK.duePicture("-9999 -9999 9999 9999 re f 7 g -9999 -9999 +9999 9999 re f", "..", "..");
        CHECK.duePicture("-9998 -9998 9999 9999 re f", "...", "#..");
    }

    private static void operatorNames() {
        for (String name : new String[] {"x", "qq", "Qq", "G", "M", "L", "H", "C", "F", "N", "w", "RE", "CM", "er", "mc",
            "r", "e", "ree", "cmm", "f**", "W**", "*", "n*", "*f", "ff", "fill", "re*", "m1", "q+", "g-", "h*"}) {
            CHECK.dueFault("1 " + name, 2, 2);
            CHECK.dueFault("0 0 m W " + name, 2, 8);
        }
    }
}
