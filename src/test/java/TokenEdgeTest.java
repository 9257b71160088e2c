/** Section 1, the tape, the tokens: each sentence that names a bound, at the bound and next to it. */
public final class TokenEdgeTest {
    private static final String KEYWORDS = "rule left right straight back ant of at faces north east south west paint wash"
        + " to face halt walk when step dark across down period row meets halted not and or min max";

    public static void main(String[] args) {
        tapeOfTwoThousandBytes();
        tapeIsEmptyBehindTeach();
        positionsAreCountedFromZero();
        bytesOfEachNumberHighestFirst();
        blanksAndLineEnds();
        blanksAtTheEdges();
        twoTokensReadAsOne();
        longestTokenIsRead();
        signsOfAWord();
        wordOfTenBytes();
        numberOfSixDigits();
        keywordsAreNoNames();
        tenBytesTellNamesApart();
        shortNamesAreToldApart();
        Check.end();
    }

    private static boolean isLetter(int sign) {
        return sign >= 'a' && sign <= 'z';
    }

    private static boolean isDigit(int sign) {
        return sign >= '0' && sign <= '9';
    }

    private static boolean isBlank(int sign) {
        return sign == 32 || sign == 10;
    }

    private static void tapeOfTwoThousandBytes() {
        FlagAnts x = Check.taught(" ".repeat(1988) + "paint 1 2 3;");
        Check.due("a line that ends with the last byte", 3, x.stone(1, 2));
        Check.error(" ".repeat(1989) + "paint 1 2 3", 1, 2000);
        Check.error("\n".repeat(1999) + "!", 1, 1999);
        Check.taught(" ".repeat(2000));
        FlagAnts y = new FlagAnts();
        Check.type(y, " ".repeat(1980));
        Check.due("feed to 2000", 2000, y.feed(0, 0, 0, 0, 0));
        y.trim(1981);
        Check.throwsDue("feed to 2001", IllegalStateException.class, () -> y.feed(0, 0, 0, 0, 0));
        Check.due("the refused bytes", 1981, y.count(10));
        Check.due("the bytes of before stay", 1, y.teach());
        Check.due("errorAt", 1980, y.errorAt());
    }

    private static void tapeIsEmptyBehindTeach() {
        FlagAnts x = new FlagAnts();
        Check.due("tape at first", 0, x.count(10));
        Check.due("a list", 0, Check.teach(x, "paint 1 1 1;"));
        Check.due("tape", 0, x.count(10));
        Check.argument("nothing to keep", () -> x.trim(1));
        Check.due("an error", 1, Check.teach(x, "paint 1 1 1; !"));
        Check.due("tape", 0, x.count(10));
        Check.due("the stone stays", 1, x.stone(1, 1));
        Check.due("old bytes are not read again", 0, Check.teach(x, "paint 2 2 2;"));
        Check.due("the stone of before", 0, x.stone(1, 1));
    }

    private static void positionsAreCountedFromZero() {
        Check.error("!", 1, 0);
        Check.error(" !", 1, 1);
        Check.error("paint", 1, 5);
        FlagAnts x = new FlagAnts();
        Check.type(x, "paint 1 2");
        Check.due("end of the tape", 1, x.teach());
        Check.due("errorAt", 9, x.errorAt());
        Check.due("the next tape", 1, Check.teach(x, " 3;"));
        Check.due("errorAt begins anew", 1, x.errorAt());
    }

    private static void bytesOfEachNumberHighestFirst() {
        String text = "rule r left back;\n  ";
        for (int place = 0; place < 20; place++) {
            FlagAnts x = new FlagAnts();
            byte[] bytes = text.getBytes(java.nio.charset.StandardCharsets.ISO_8859_1);
            bytes[place] = (byte) 255;
            int[] fours = new int[5];
            for (int i = 0; i < 20; i++) {
                fours[i / 4] |= (bytes[i] & 255) << 24 - 8 * (i % 4);
            }
            Check.due("feed", 20, x.feed(fours[0], fours[1], fours[2], fours[3], fours[4]));
            Check.due("teach with a stray byte " + place, 1, x.teach());
            // a letter taken from the end of a keyword leaves a name, a part of one and then the stray byte
            int errorAt = place == 1 || place == 2 || place == 3 ? 0 : place > 7 && place < 11 ? 7
                : place > 12 && place < 16 ? 12 : place;
            Check.due("errorAt of stray byte " + place, errorAt, x.errorAt());
        }
    }

    private static void blanksAndLineEnds() {
        for (int sign = 0; sign < 256; sign++) {
            String text = "rule r left right" + (char) sign + ";";
            if (isBlank(sign)) {
                Check.taught(text);
            } else if (isLetter(sign) || isDigit(sign)) {
                Check.error(text, 1, 12);
            } else {
                Check.error(text, 1, sign == ';' ? 18 : 17);
            }
        }
        Check.taught(" \n \n\n  rule \n\n r\nleft    right\n;\n\n ");
    }

    private static void blanksAtTheEdges() {
        for (int sign = 0; sign < 256; sign++) {
            if (isBlank(sign)) {
                Check.taught((char) sign + "rule r left right;");
                Check.taught("rule r left right;" + (char) sign);
            } else {
                Check.error((char) sign + "rule r left right;", 1, 0);
                Check.error("rule r left right;" + (char) sign, 1, 18);
            }
        }
    }

    private static void twoTokensReadAsOne() {
        Check.errorAtMark(1, "^ruler left right;");
        Check.errorAtMark(1, "rule r ^leftright;");
        Check.errorAtMark(1, "rule r left ^right1;");
        Check.errorAtMark(1, "paint 12 3^;");
        Check.taught("paint 12 3 4;paint 1 2 3;");
        Check.taught("paint 1 2 3;wash 1to 2when 3=3;");
        Check.errorAtMark(1, "wash 1 ^to2 when 3=3;");
        Check.errorAtMark(1, "wash 1 to 2 when ^min1(1,2)=1;");
        Check.taught("wash 1 to 2 when min(1,2)=1and 2=2or 3=3;");
    }

    private static void longestTokenIsRead() {
        Check.taught("wash 1 to 2 when 1<=1;");
        Check.taught("wash 1 to 2 when 1>=1;");
        Check.errorAtMark(1, "wash 1 to 2 when 1< ^=1;");
        Check.errorAtMark(1, "wash 1 to 2 when 1>\n^=1;");
        Check.errorAtMark(1, "wash 1 to 2 when 1=^<1;");
        Check.errorAtMark(1, "wash 1 to 2 when 1=^>=1;");
        Check.errorAtMark(1, "wash 1 to 2 when 1<=^=1;");
        Check.errorAtMark(1, "wash 1 to 2 when 1>=^=1;");
        Check.errorAtMark(1, "wash 1 to 2 when 1<^>1;");
        Check.errorAtMark(1, "wash 1 to 2 when 1>^<1;");
        Check.errorAtMark(1, "wash 1 to 2 when 1<^<=1;");
        Check.taught("wash 1 to 2 when 1<-1;");
        Check.taught("wash 1 to 2 when--1=-(-1);");
        Check.errorAtMark(1, "wash 1 to 2 when 1<^");
        Check.errorAtMark(1, "wash 1 to 2 when 1<=^");
        Check.errorAtMark(1, "wash 1 to 2 when 1>^");
        // a byte behind the end of the tape is none of its tokens
        FlagAnts x = new FlagAnts();
        Check.type(x, "wash 1 to 2 when 1<=1;");
        x.trim(19);
        Check.due("teach", 1, x.teach());
        Check.due("errorAt", 19, x.errorAt());
    }

    private static void signsOfAWord() {
        for (int sign = 0; sign < 256; sign++) {
            boolean within = isLetter(sign) || isDigit(sign);
            String inside = "rule a" + (char) sign + "c left right;";
            String first = "rule " + (char) sign + " left right;";
            if (within) {
                Check.taught(inside);
            } else {
                Check.error(inside, 1, isBlank(sign) ? 7 : 6);
            }
            if (isLetter(sign)) {
                Check.taught(first);
            } else {
                Check.error(first, 1, isBlank(sign) ? 7 : 5);
            }
        }
        Check.taught("rule z9 left right; rule a0 left right; ant azaz09 of z9 at 1 1 faces west;");
        // a word begins with a letter, so this is a number and a word
        Check.errorAtMark(1, "rule ^1a left right;");
        Check.errorAtMark(1, "paint 1 2 3^a;");
    }

    private static void wordOfTenBytes() {
        Check.taught("rule abcdefghij left right;");
        Check.taught("rule a123456789 left right;");
        Check.errorAtMark(1, "rule ^abcdefghijk left right;");
        Check.errorAtMark(1, "rule ^a1234567890 left right;");
        Check.errorAtMark(1, "rule ^" + "z".repeat(1500) + " left right;");
        Check.errorAtMark(1, "rule ^" + "r" + "0".repeat(11) + " left right;");
    }

    private static void numberOfSixDigits() {
        Check.taught("paint 000001 00002 3;");
        Check.errorAtMark(1, "paint ^0000001 2 3;");
        Check.errorAtMark(1, "paint 1 ^0000002 3;");
        Check.taught("wash 1 to 2 when 999999 = 100000;");
        Check.errorAtMark(1, "wash 1 to 2 when ^1000000 = 100000;");
        Check.errorAtMark(1, "wash 1 to 2 when 1 = ^4294967297;");
        Check.errorAtMark(1, "wash 1 to 2 when 1 = ^" + "9".repeat(1000) + ";");
        Check.errorAtMark(1, "paint ^" + "0".repeat(1000) + " 1 1;");
    }

    private static void keywordsAreNoNames() {
        String[] keywords = KEYWORDS.split(" ");
        Check.due("keywords", 33, keywords.length);
        for (String word : keywords) {
            Check.error("rule " + word + " left right;", 1, 5);
            Check.error("rule r left right; ant " + word + " of r at 1 1 faces west;", 1, 23);
            Check.error("halt " + word + " when 1 = 1;", 1, 5);
            String longer = word + "x";
            Check.taught("rule " + longer + " left right; ant " + longer + " of " + longer + " at 1 1 faces west;");
            String shorter = word.substring(0, word.length() - 1);
            if (!shorter.equals("face")) {
                Check.taught("rule " + shorter + " left right;");
            }
            Check.taught("rule x" + word + " left right;");
        }
    }

    /** Two names that differ in one byte are two names, wherever it is. */
    private static void tenBytesTellNamesApart() {
        String name = "mnopqrstuv";
        for (int place = 0; place < 10; place++) {
            StringBuilder text = new StringBuilder("rule " + name + " left left; ");
            String signs = place == 0 ? "abyz" : "az09";
            for (char sign : signs.toCharArray()) {
                text.append("rule ").append(name, 0, place).append(sign).append(name.substring(place + 1)).append(" back back; ");
            }
            for (char sign : signs.toCharArray()) {
                String other = name.substring(0, place) + sign + name.substring(place + 1);
                FlagAnts x = Check.taught(text + "ant a of " + other + " at 1 1 faces west;");
                Check.due("rule of the ant", 1 + signs.indexOf(sign), x.ant(0, 0));
            }
        }
        Check.taught("rule a left left; rule aa left left; rule a0 left left; rule b left left; rule aaa left left;");
        Check.taught("rule a0 left left; rule a00 left left; rule a left left; rule j left left; rule a9 left left;");
    }

    /** Names that differ in more than one byte, by letters and digits, are not taken for one another either. */
    private static void shortNamesAreToldApart() {
        String signs = "abcdefghijklmnopqrstuvwxyz0123456789";
        FlagAnts x = new FlagAnts();
        for (char first = 'a'; first <= 'h'; first++) {
            for (char digit = '0'; digit <= '9'; digit++) {
                for (int other = 0; other < 26 * 36; other++) {
                    String name = "" + first + digit;
                    String next = "" + signs.charAt(other / 36) + signs.charAt(other % 36);
                    if (!name.equals(next) && !(" " + KEYWORDS + " ").contains(" " + next + " ")) {
                        String text = "rule " + name + " left left;rule " + next + " back back;";
                        Check.due("teach of " + text, 0, Check.teach(x, text));
                    }
                }
            }
        }
    }
}
