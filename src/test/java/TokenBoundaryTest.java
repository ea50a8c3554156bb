/** The boundaries that the document names for blanks, comments, barred characters, tokens, numbers and operands. */
public final class TokenBoundaryTest {
    private static final String BLANKS = "\t\n\f\r ";
    private static final String BARRED = "()<>[]{}/";
    private static final Check CHECK = new Check();

    public static void main(String[] args) {
        blanks();
        commentsEnd();
        commentsToTheEnd();
        barredCharacters();
        longestRuns();
        whatBeginsANumber();
        oneToFourDigits();
        nothingButDigits();
        greatestNumbers();
        otherTokens();
        operandsSinceTheLastOperator();
        manyOperands();
        CHECK.end();
    }

    private static boolean isIn(String characters, int code) {
        return characters.indexOf(code) >= 0;
    }

    private static void blanks() {
        CHECK.says("BLANKS are the codes 9, 10, 12, 13, 32.");
        for (int code = 1; code <= 255; code++) {
            String text = "q" + (char) code + "Q";
            if (isIn(BLANKS, code)) {
                CHECK.dueNoFault(text);
            } else if (code == '%') {
                CHECK.dueFault(text, 9, 3);
            } else if (isIn(BARRED, code)) {
                CHECK.dueFault(text, 1, 1);
            } else {
                CHECK.dueFault(text, 2, 0);
            }
        }
        for (char blank : BLANKS.toCharArray()) {
            CHECK.dueNoFault(Check.times(String.valueOf(blank), 400));
            CHECK.dueFault(Check.times(String.valueOf(blank), 399) + "x", 2, 399);
        }
    }

    private static void commentsEnd() {
        CHECK.says("A % begins a comment, which goes on to before the next 10 or 13");
        for (int code = 1; code <= 255; code++) {
            String text = "%" + (char) code + "x";
            if (code == 10 || code == 13) {
                CHECK.dueFault(text, 2, 2);
            } else {
                CHECK.dueNoFault(text);
            }
        }
        CHECK.dueFault("%%x%\n%(\rx", 2, 8);
        CHECK.dueFault("%\n\rx", 2, 3);
        CHECK.dueFault("q%Q\nq", 9, 5);
        CHECK.dueFault("7%7\ng%g\rg", 3, 8);
    }

    private static void commentsToTheEnd() {
        CHECK.says("or to the end");
        CHECK.dueNoFault("%");
        CHECK.dueNoFault("%x");
        CHECK.dueNoFault("%" + Check.times("x", 399));
        CHECK.dueNoFault(Check.times(" ", 399) + "%");
        CHECK.dueNoFault(Check.times("% ", 200));
        CHECK.dueFault("5%", 3, 2);
        CHECK.dueFault("5%" + Check.times("g", 398), 3, 400);
        CHECK.dueFault("q%" + Check.times(")", 398), 9, 400);
        CHECK.dueFault("1 1 m%" + Check.times("n", 394), 11, 400);
        // What a longer text held behind the end is not read.
        PageRaster raster = Check.fed("%xx\nx");
        raster.clear();
        raster.feed('%' | 'x' << 8);
        CHECK.due("draw of a shorter comment", raster.draw(1, 1), 0);
    }

    private static void barredCharacters() {
        CHECK.says("The characters ( ) < > [ ] { } / are BARRED.");
        for (char barred : BARRED.toCharArray()) {
            CHECK.dueFault(String.valueOf(barred), 1, 0);
            CHECK.dueFault(Check.times(" ", 399) + barred, 1, 399);
            CHECK.dueFault("1" + barred, 1, 1);
            CHECK.dueFault("1 g" + barred + "g", 1, 3);
            CHECK.dueFault("q" + barred + barred, 1, 1);
            CHECK.dueNoFault("%" + barred);
            CHECK.dueFault("%\n" + barred, 1, 2);
            // The token before it counts first.
            CHECK.dueFault("Q" + barred, 7, 0);
            CHECK.dueFault("12345" + barred, 1, 0);
        }
    }

    private static void longestRuns() {
        CHECK.says("A TOKEN is a longest run of characters, outside comments, that are no blanks, not % and not barred.");
        CHECK.dueFault(Check.times("x", 400), 2, 0);
        CHECK.dueFault(Check.times("1", 400), 1, 0);
        CHECK.dueFault(" " + Check.times("q", 399), 2, 1);
        CHECK.dueFault("qQ", 2, 0);
        CHECK.dueNoFault("q Q");
        CHECK.dueFault("7g", 1, 0);
        CHECK.dueFault("1 1 m W*n", 2, 6);
        CHECK.dueFault("1 1 m W *", 2, 8);
        CHECK.dueNoFault("1 1 m W* n");
        CHECK.dueFault("1 1 1 1 r e", 2, 8);
        CHECK.dueFault("1 1 1 1 r%\ne", 2, 8);
        CHECK.dueNoFault("1 1 1 1 re%\nf%");
        CHECK.dueFault("1-1 g", 1, 0);
        // The last token may end with the text.
        CHECK.dueNoFault(Check.times(" ", 397) + "q Q");
        CHECK.dueFault(Check.times(" ", 397) + "255", 3, 400);
        CHECK.dueFault(Check.times(" ", 398) + "qq", 2, 398);
    }

    private static void whatBeginsANumber() {
        CHECK.says("A token that begins with a digit, + or - is a NUMBER ... any other token is an OPERATOR");
        for (int code = 1; code <= 255; code++) {
            String text = (char) code + "1";
            if (isIn("0123456789+-", code)) {
                CHECK.dueFault(text, 3, 2);
            } else if (code == '%') {
                CHECK.dueNoFault(text);
            } else if (isIn(BLANKS, code)) {
                CHECK.dueFault(text, 3, 2);
            } else if (isIn(BARRED, code)) {
                CHECK.dueFault(text, 1, 0);
            } else {
                CHECK.dueFault(text, 2, 0);
            }
        }
    }

    private static void oneToFourDigits() {
        CHECK.says("an optional + or - and one to four digits, else faulty (1)");
        for (String sign : new String[] {"", "+", "-"}) {
            for (int digits = sign.isEmpty() ? 1 : 0; digits <= 12; digits++) {
                String token = sign + Check.times("0", digits);
                if (digits >= 1 && digits <= 4) {
                    CHECK.dueNoFault(token + " g");
                    CHECK.dueFault(token, 3, token.length());
                } else {
                    CHECK.dueFault(token, 1, 0);
                    CHECK.dueFault("1 " + token + " g", 1, 2);
                    CHECK.dueFault("q " + token + "%", 1, 2);
                }
            }
            CHECK.dueFault(sign + "9999 g", 4, sign.length() + 5);
            CHECK.dueFault(sign + "10000 g", 1, 0);
        }
        CHECK.dueFault("++1", 1, 0);
        CHECK.dueFault("+-1", 1, 0);
        CHECK.dueFault("-+1", 1, 0);
        CHECK.dueFault("--1", 1, 0);
    }

    private static void nothingButDigits() {
        CHECK.says("and one to four digits");
        for (int code = 1; code <= 255; code++) {
            if (isIn(BLANKS, code) || isIn(BARRED, code) || code == '%') {
                continue;
            }
            boolean digit = code >= '0' && code <= '9';
            for (int at = 1; at <= 3; at++) {
                for (String sign : new String[] {"", "+", "-"}) {
                    String token = sign + Check.times("0", at) + (char) code + Check.times("0", 3 - at);
                    CHECK.dueFault(token, digit ? 3 : 1, digit ? token.length() : 0);
                }
            }
        }
    }

    private static void greatestNumbers() {
        CHECK.says("one to four digits");
        CHECK.duePicture("-9999 0 9999 1 re f", "..");
        CHECK.duePicture("-9998 0 9999 1 re f", "#.");
        CHECK.duePicture("9999 0 -9999 1 re f", "##");
        CHECK.duePicture("9999 0 -9998 1 re f", ".#");
        CHECK.duePicture("-0 +0 +1 0001 re f", "#.");
        CHECK.duePicture("-1 -01 +003 0002 re f", "...", "##.");
        CHECK.duePicture("9 g 0 0 1 1 re f 0008 g 1 0 1 1 re f -0 g 2 0 1 1 re f", "98#.");
    }

    private static void otherTokens() {
        CHECK.says("2 there is none of that name");
        String[] names = {"q", "Q", "cm", "g", "m", "l", "h", "re", "c", "W", "W*", "f", "f*", "n"};
        for (String name : names) {
            CHECK.dueFault(name + "x", 2, 0);
            CHECK.dueFault("x" + name, 2, 0);
            CHECK.dueFault(name + "0", 2, 0);
            CHECK.dueFault(name + name, 2, 0);
            CHECK.dueFault(name + "\u0001", 2, 0);
            CHECK.dueFault(name + "**", 2, 0);
        }
        for (int code = 33; code <= 255; code++) {
            String name = String.valueOf((char) code);
            if (!isIn("qQgmlhcWfn%0123456789+-" + BARRED, code)) {
                CHECK.dueFault(name, 2, 0);
            }
            if (!isIn("fW%0123456789+-" + BARRED, code)) {
                CHECK.dueFault(name + "*", 2, 0);
            }
        }
        for (int code = 1; code <= 255; code++) {
            // Second codes: only cm, f*, W* and re are names of two.
            if (!isIn(BLANKS + BARRED + "%", code)) {
                dueUnknownUnless(code == 'm', "c" + (char) code);
                dueUnknownUnless(code == '*', "f" + (char) code);
                dueUnknownUnless(code == '*', "W" + (char) code);
                dueUnknownUnless(code == 'e', "r" + (char) code);
            }
        }
    }

    private static void dueUnknownUnless(boolean known, String name) {
        CHECK.due("draw of <" + name + "> is 2", Check.fed(name).draw(1, 1) == 2 ? 1 : 0, known ? 0 : 1);
    }

    private static void operandsSinceTheLastOperator() {
        CHECK.says("The numbers since the last operator, or since the beginning, are the operands of the next one.");
        CHECK.dueNoFault("1 g 1 g 1 g");
        CHECK.dueFault("1 2 g", 3, 4);
        CHECK.dueFault("1 g g", 3, 4);
        CHECK.dueFault("g", 3, 0);
        CHECK.dueFault("1 q", 3, 2);
        CHECK.dueFault("q 1 Q", 3, 4);
        CHECK.dueFault("0 0 m 1 2 3 l", 3, 12);
        CHECK.dueFault("0 0 m 1 l", 3, 8);
        // Comments and blanks between them do not part the operands.
        CHECK.dueNoFault("1%2\n\r\f\t 2%3\rm n");
        CHECK.duePicture("1 2 3 4 re n 9 g 0 0 1 1 re f", "9.");
        // A drawing that ended with numbers leaves none for the next one.
        PageRaster raster = Check.drawn("1 2 3", 2, 2);
        raster.clear();
        Check.feedAll(raster, "5 g");
        CHECK.due("draw after one that left numbers", raster.draw(2, 2), 0);
    }

    private static void manyOperands() {
        CHECK.says("3 it has not as many operands as said");
        String[] names = {"q", "Q", "g", "m", "re", "cm", "l", "h", "c", "W", "W*", "f", "f*", "n"};
        int[] wanted = {0, 0, 1, 2, 4, 6, 2, 0, 6, 0, 0, 0, 0, 0};
        String[] before = {"", "q ", "", "", "", "", "0 0 m ", "0 0 m ", "0 0 m ", "0 0 m ", "0 0 m ", "0 0 m ", "0 0 m ", "0 0 m "};
        for (int i = 0; i < names.length; i++) {
            for (int count = 0; count <= 190; count += count < 16 ? 1 : 29) {
                String text = before[i] + Check.times("1 ", count);
                PageRaster raster = Check.fed(text + names[i]);
                int number = raster.draw(3, 3);
                if (count == wanted[i]) {
                    CHECK.due("draw of <" + text + names[i] + "> is 3", number == 3 ? 1 : 0, 0);
                } else {
                    CHECK.due("draw of <" + text + names[i] + ">", number, 3);
                    CHECK.due("faultAt", raster.faultAt(), text.length());
                }
            }
        }
        CHECK.dueFault(Check.times("1 ", 200), 3, 400);
    }
}
