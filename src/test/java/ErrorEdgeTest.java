/** Section 1, the errors 2 to 5 and the numbering: each bound, the case itself and the nearest one beyond it. */
public final class ErrorEdgeTest {
    private static final String ANT = "rule r left right; ant a of r at 1 1 faces north; ";
    private static final String[] ORDERS = {"wash 1 to 2", "face a west", "halt a", "walk a"};

    public static void main(String[] args) {
        onlyWithoutErrorOne();
        firstErrorIsTold();
        smallestNumberAtOneToken();
        sameNameOfOneKind();
        ruleToldAhead();
        antToldAhead();
        sixthRule();
        seventhAnt();
        seventhTurn();
        twentyFirstOrder();
        placesTo63();
        coloursTo5();
        washRanges();
        numbersInSumsHaveNoRange();
        numberedAsTold();
        paintsOneBehindTheOther();
        columnAheadOfRow();
        errorAtOfTheLatestTeach();
        errorLeavesAll();
        Check.end();
    }

    /** A piece with each of the errors 2 to 5, at its mark; the pieces can stand in any order behind ANT. */
    private static final String[] PIECES = {"rule ^r left right; ", "ant b of ^q at 1 1 faces west; ",
        "rule s back back back back back back ^back; ", "paint ^64 64 6; "};

    private static void onlyWithoutErrorOne() {
        for (String piece : PIECES) {
            String text = ANT + piece.replace("^", "");
            Check.error(text + "!", 1, text.length());
            Check.error(text + "rule left", 1, text.length() + 5);
            Check.error(text + "paint 1 2 3", 1, text.length() + 11);
        }
        Check.error("paint 64 64 6; halt q when halted q; ;", 1, 37);
    }

    private static void firstErrorIsTold() {
        for (int first = 0; first < PIECES.length; first++) {
            for (int second = 0; second < PIECES.length; second++) {
                if (first != second) {
                    Check.errorAtMark(2 + first, ANT + PIECES[first] + PIECES[second].replace("^", ""));
                }
            }
        }
        Check.errorAtMark(3, ANT + "ant b of ^q at 64 64 faces west;");
        Check.errorAtMark(5, ANT + "ant b of r at ^64 64 faces west; ant b of r at 1 1 faces west;");
        Check.errorAtMark(2, ANT + "ant ^a of q at 64 64 faces west;");
        Check.errorAtMark(5, ANT + "paint 1 ^64 6;");
        Check.errorAtMark(5, ANT + "wash 5 to ^4 when halted q;");
        Check.errorAtMark(3, ANT + "wash 4 to 4 when halted ^q or meets p;");
        Check.errorAtMark(3, ANT + "halt ^q when halted p;");
    }

    private static String rules(int many) {
        StringBuilder text = new StringBuilder();
        for (int i = 0; i < many; i++) {
            text.append("rule r").append(i).append(" left right; ");
        }
        return text.toString();
    }

    private static String ants(int many) {
        StringBuilder text = new StringBuilder("rule r left right; ");
        for (int i = 0; i < many; i++) {
            text.append("ant a").append(i).append(" of r at 1 1 faces west; ");
        }
        return text.toString();
    }

    private static void smallestNumberAtOneToken() {
        Check.errorAtMark(2, rules(5) + "rule ^r0 left right;");
        Check.errorAtMark(2, rules(5) + "rule ^r4 left right;");
        Check.errorAtMark(4, rules(5) + "rule ^r5 left right;");
        Check.errorAtMark(2, ants(6) + "ant ^a0 of r at 1 1 faces west;");
        Check.errorAtMark(2, ants(6) + "ant ^a5 of r at 1 1 faces west;");
        Check.errorAtMark(4, ants(6) + "ant ^a6 of r at 1 1 faces west;");
    }

    private static void sameNameOfOneKind() {
        Check.errorAtMark(2, "rule r left left; rule ^r left left;");
        Check.errorAtMark(2, "rule r left left; rule s left left; rule t back back; rule ^s left left;");
        Check.errorAtMark(2, ANT + "ant b of r at 1 1 faces west; ant ^b of r at 2 2 faces east;");
        FlagAnts x = Check.taught("rule a left left; ant a of a at 1 1 faces west; rule b back back; ant b of b at 2 2 faces east;"
            + " halt a when meets b;");
        Check.due("rules", 2, x.count(1));
        Check.due("ants", 2, x.count(2));
        Check.due("rule of a", 0, x.ant(0, 0));
        Check.due("rule of b", 1, x.ant(1, 0));
        Check.taught("rule r left left; rule rr left left; rule r1 left left;");
        // a list begins anew, so its names can be told again
        FlagAnts y = Check.taught(ANT);
        Check.due("the same list again", 0, Check.teach(y, ANT));
    }

    private static void ruleToldAhead() {
        Check.taught(ANT + "ant b of r at 1 1 faces west;");
        Check.errorAtMark(3, "ant a of ^r at 1 1 faces west;");
        Check.errorAtMark(3, "ant a of ^r at 1 1 faces west; rule r left left;");
        Check.errorAtMark(3, "ant a of ^a at 1 1 faces west;");
        Check.errorAtMark(3, ANT + "ant b of ^a at 1 1 faces west;");
        Check.errorAtMark(3, ANT + "ant b of ^rr at 1 1 faces west;");
        FlagAnts x = Check.taught(ANT);
        Check.due("the rules of the list before count no more", 3, Check.teach(x, "ant a of r at 1 1 faces west;"));
        Check.due("errorAt", 9, x.errorAt());
    }

    private static void antToldAhead() {
        for (String use : new String[] {"face @ west when 1 = 1;", "halt @ when 1 = 1;", "walk @ when 1 = 1;",
            "wash 1 to 2 when across @ = 1;", "wash 1 to 2 when down @ = 1;", "wash 1 to 2 when period @ = 1;",
            "wash 1 to 2 when meets @;", "wash 1 to 2 when halted @;", "halt a when 1 = 1 + max(1, across @);",
            "face a west when not [1 = 2 or halted @];"}) {
            Check.taught(ANT + use.replace("@", "a"));
            Check.errorAtMark(3, ANT + use.replace("@", "^r"));
            Check.errorAtMark(3, ANT + use.replace("@", "^aa"));
            Check.errorAtMark(3, ANT + use.replace("@", "^b") + " ant b of r at 1 1 faces west;");
            Check.taught(ANT + "ant b of r at 1 1 faces west; " + use.replace("@", "b"));
        }
        FlagAnts x = Check.taught(ANT);
        Check.due("the ants of the list before count no more", 3, Check.teach(x, "halt a when 1 = 1;"));
        Check.due("errorAt", 5, x.errorAt());
    }

    private static void sixthRule() {
        Check.due("rules", 5, Check.taught(rules(5)).count(1));
        Check.errorAtMark(4, rules(5) + "rule ^x left right;");
        Check.errorAtMark(4, rules(5) + "rule ^x left right; rule y left right;");
        Check.taught(rules(5) + "ant r5 of r4 at 1 1 faces west;");
    }

    private static void seventhAnt() {
        Check.due("ants", 6, Check.taught(ants(6)).count(2));
        Check.errorAtMark(4, ants(6) + "ant ^x of r at 1 1 faces west;");
        Check.errorAtMark(4, ants(6) + "ant ^x of nothing at 99 99 faces west;");
        Check.taught(ants(6) + "rule a6 left right; halt a5 when meets a0;");
    }

    private static void seventhTurn() {
        for (String turn : new String[] {"left", "right", "straight", "back"}) {
            String six = "rule r" + (" " + turn).repeat(6);
            FlagAnts x = Check.taught(six + ";");
            Check.due("the sixth turn", x.turn(0, 0), x.turn(0, 5));
            Check.errorAtMark(4, six + " ^" + turn + ";");
            Check.errorAtMark(4, six + " ^left right back;");
        }
        Check.taught("rule r left left left left left left; rule s back back back back back back;");
        Check.errorAtMark(4, "rule r left left; rule s back back back back back back ^back;");
    }

    private static void twentyFirstOrder() {
        for (String last : ORDERS) {
            StringBuilder twenty = new StringBuilder(ANT);
            for (int i = 0; i < 20; i++) {
                twenty.append(ORDERS[i % 4]).append(" when 1=1;");
            }
            Check.due("orders", 20, Check.taught(twenty.toString()).count(3));
            Check.errorAtMark(4, twenty + "^" + last + " when 1=1;");
            Check.errorAtMark(4, twenty + "^" + last.replace(" a", " q") + " when meets q;");
            StringBuilder alone = new StringBuilder(ANT);
            for (int i = 0; i < 20; i++) {
                alone.append(last).append(" when 1=1;");
            }
            Check.due("orders", 20, Check.taught(alone.toString()).count(3));
            Check.errorAtMark(4, alone + "^" + last + " when 1=1;");
            Check.taught(alone + "paint 1 1 1; rule s left left; ant b of s at 1 1 faces west; paint 1 1 1;");
        }
    }

    private static void placesTo63() {
        String rule = "rule r left right; ";
        for (int place : new int[] {0, 1, 62, 63}) {
            Check.taught(rule + "ant a of r at " + place + " 0 faces west; ant b of r at 0 " + place + " faces west;");
            Check.taught("paint " + place + " 0 0; paint 0 " + place + " 0;");
        }
        for (int place : new int[] {64, 65, 127, 128, 999999}) {
            Check.errorAtMark(5, rule + "ant a of r at ^" + place + " 0 faces west;");
            Check.errorAtMark(5, rule + "ant a of r at 0 ^" + place + " faces west;");
            Check.errorAtMark(5, "paint ^" + place + " 0 0;");
            Check.errorAtMark(5, "paint 0 ^" + place + " 0;");
        }
    }

    private static void coloursTo5() {
        for (int colour = 0; colour <= 5; colour++) {
            Check.due("stone", colour, Check.taught("paint 1 1 " + colour + ";").stone(1, 1));
        }
        for (int colour : new int[] {6, 7, 63, 64, 256, 999999}) {
            Check.errorAtMark(5, "paint 1 1 ^" + colour + ";");
        }
    }

    private static void washRanges() {
        for (int from = 0; from < 64; from++) {
            Check.taught("wash " + from + " to " + from + " when 1 = 1; wash " + from + " to 63 when 1 = 1;");
            Check.errorAtMark(5, "wash " + from + " to ^64 when 1 = 1;");
            if (from > 0) {
                Check.errorAtMark(5, "wash " + from + " to ^" + (from - 1) + " when 1 = 1;");
                Check.errorAtMark(5, "wash " + from + " to ^0 when 1 = 1;");
            }
        }
        Check.errorAtMark(5, "wash ^64 to 64 when 1 = 1;");
        Check.errorAtMark(5, "wash ^64 to 63 when 1 = 1;");
        Check.errorAtMark(5, "wash ^64 to 0 when 1 = 1;");
        Check.errorAtMark(5, "wash ^999999 to 999999 when 1 = 1;");
    }

    private static void numbersInSumsHaveNoRange() {
        Check.taught("wash 1 to 2 when 0 = 999999 or row(64) = 64 or min(6, 999999) = 63;");
    }

    private static void numberedAsTold() {
        FlagAnts x = Check.taught("rule second left right; rule first back straight; paint 9 9 1;"
            + " ant z of first at 5 6 faces south; rule third right left; ant y of second at 7 8 faces east;"
            + " ant x of third at 1 2 faces west;");
        int[][] turns = {{0, 1}, {3, 2}, {1, 0}};
        int[][] ants = {{1, 5, 6, 2}, {0, 7, 8, 1}, {2, 1, 2, 3}};
        for (int i = 0; i < 3; i++) {
            Check.due("turn", turns[i][0], x.turn(i, 0));
            Check.due("turn", turns[i][1], x.turn(i, 1));
            for (int what = 0; what < 4; what++) {
                Check.due("ant " + i, ants[i][what], x.ant(i, what));
            }
        }
    }

    private static void paintsOneBehindTheOther() {
        FlagAnts x = Check.taught("paint 3 4 5; paint 3 4 1; paint 4 3 2; paint 4 3 0; paint 5 5 0; paint 5 5 4;");
        Check.due("stone", 1, x.stone(3, 4));
        Check.due("stone", 0, x.stone(4, 3));
        Check.due("stone", 4, x.stone(5, 5));
        Check.due("dark", 2, x.count(4));
        Check.due("nothing is washed by it", 0, x.count(8));
    }

    private static void columnAheadOfRow() {
        FlagAnts x = Check.taught("paint 0 63 1; paint 62 1 2; rule r left right; ant a of r at 0 63 faces west;");
        Check.due("stone", 1, x.stone(0, 63));
        Check.due("stone", 0, x.stone(63, 0));
        Check.due("stone", 2, x.stone(62, 1));
        Check.due("row", 1, x.row(63));
        Check.due("column of the ant", 0, x.ant(0, 1));
        Check.due("row of the ant", 63, x.ant(0, 2));
    }

    private static void errorAtOfTheLatestTeach() {
        FlagAnts x = new FlagAnts();
        Check.due("there was none", -1, x.errorAt());
        Check.due("error 1", 1, Check.teach(x, "  !"));
        Check.due("errorAt", 2, x.errorAt());
        x.feed(0x20202020, 0x20202020, 0x20202020, 0x20202020, 0x20202020);
        Check.due("errorAt stays until the next one", 2, x.errorAt());
        x.trim(0);
        Check.due("error 5", 5, Check.teach(x, "paint 1 99 1;"));
        Check.due("errorAt", 8, x.errorAt());
        Check.due("none", 0, Check.teach(x, "paint 1 9 1;"));
        Check.due("errorAt", -1, x.errorAt());
        Check.due("error 1 of nothing but blanks and a word", 1, Check.teach(x, "   paint"));
        Check.due("errorAt", 8, x.errorAt());
        Check.due("an empty tape is a list", 0, x.teach());
        Check.due("errorAt", -1, x.errorAt());
    }

    private static final String MANY = "rule s straight straight; rule r left right back; ant a of s at 1 1 faces east;"
        + " ant b of r at 9 9 faces west; ant c of s at 5 1 faces east; paint 9 20 3; wash 20 to 21 when step = 9;"
        + " halt c when step = 12; face b north when meets b; walk c when step = 30; halt a when period b > 0;";

    /** An object that is taught lists with errors goes on as one that is not. */
    private static void errorLeavesAll() {
        FlagAnts x = Check.taught(MANY);
        FlagAnts y = Check.taught(MANY);
        String[] wrong = {"!", "rule q left left; rule q left left;", "paint 1 1 1; halt q when 1 = 1;",
            "rule q left left left left left left left;", "paint 1 1 1; paint 1 1 6;", "rule q back back;" + "ant a of q at 1 1"
            + " faces west; face a west when 1 = 1; paint 30 30 5; wash 0 to 63 when 1 = 1; halt a when 1 = 1"};
        for (int i = 0; i < 36; i++) {
            int error = Check.teach(x, wrong[i % wrong.length]);
            Check.due("error of list " + i % wrong.length, i % 6 == 5 ? 1 : i % 6 + 1, error);
            Check.same("behind an error", x, y);
            Check.due("pass", y.pass(1), x.pass(1));
            Check.same("behind a step", x, y);
        }
        Check.due("steps", 36, x.count(0));
        Check.due("orders were carried out", 1, y.count(9) >= 3 ? 1 : 0);
    }
}
