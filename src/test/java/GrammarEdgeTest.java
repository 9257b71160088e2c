import java.util.Arrays;
import java.util.List;

/** Section 1, the grammar, the depth and error 1: what goes on with a list, and the first token that does not. */
public final class GrammarEdgeTest {
    private static final String[] TOKENS = ("rule left right straight back ant of at faces north east south west paint wash"
        + " to face halt walk when step dark across down period row meets halted not and or min max name 7 ( ) [ ] ; , + -"
        + " * / < > = <= >= ! abcdefghijk 1234567").split(" ");
    private static final String LINE = "rule ant paint wash face halt walk";
    private static final String TURN = "left right straight back";
    private static final String SIDE = "north east south west";
    private static final String VALUE = "7 step dark across down period row - ( min max";
    private static final String TEST = "not [ meets halted " + VALUE;
    private static final String SIGN = "+ - * / ";
    private static final String COMPARISON = "< > = <= >=";
    private static final String ANT = "rule r left right; ant a of r at 1 1 faces north; ";
    private static final String WHEN = ANT + "wash 1 to 2 when ";

    public static void main(String[] args) {
        lines();
        ruleLine();
        antLine();
        paintLine();
        orderLines();
        tests();
        sums();
        unclosedGroups();
        deepest();
        deepestInEachOrder();
        deepestOfTwoKinds();
        depthEndsBehind();
        depthEndsBehindWhatIsTurned();
        minusBetweenValuesIsNotDeeper();
        fourHundredTokens();
        endOfTheTape();
        Check.end();
    }

    /** Behind the text so far just these tokens go on with a list; at each other one there is error 1. */
    private static void goesOnWith(String soFar, String fitting) {
        List<String> fits = Arrays.asList(fitting.split(" "));
        for (String token : TOKENS) {
            String text = soFar + " " + token;
            FlagAnts x = new FlagAnts();
            int error = Check.teach(x, text);
            boolean whole = token.equals(";") && fits.contains(token);
            Check.due("teach of " + text, whole ? 0 : 1, error);
            int place = whole ? -1 : fits.contains(token) ? text.length() : soFar.length() + 1;
            Check.due("errorAt behind " + text, place, x.errorAt());
        }
        boolean whole = soFar.isEmpty() || soFar.endsWith(";");
        FlagAnts x = new FlagAnts();
        Check.due("teach of " + soFar, whole ? 0 : 1, Check.teach(x, soFar));
        Check.due("errorAt behind " + soFar, whole ? -1 : soFar.length(), x.errorAt());
    }

    private static void lines() {
        goesOnWith("", LINE);
        goesOnWith("paint 1 2 3;", LINE);
        goesOnWith("paint 1 2 3; rule r left left;", LINE);
    }

    private static void ruleLine() {
        goesOnWith("rule", "name");
        goesOnWith("rule r", TURN);
        for (String turn : TURN.split(" ")) {
            goesOnWith("rule r " + turn, TURN);
            goesOnWith("rule r back " + turn, TURN + " ;");
            goesOnWith("rule r left right straight back left " + turn, TURN + " ;");
        }
    }

    private static void antLine() {
        String rule = "rule r left right; ";
        goesOnWith(rule + "ant", "name");
        goesOnWith(rule + "ant a", "of");
        goesOnWith(rule + "ant a of", "name");
        goesOnWith(rule + "ant a of r", "at");
        goesOnWith(rule + "ant a of r at", "7");
        goesOnWith(rule + "ant a of r at 1", "7");
        goesOnWith(rule + "ant a of r at 1 2", "faces");
        goesOnWith(rule + "ant a of r at 1 2 faces", SIDE);
        for (String side : SIDE.split(" ")) {
            goesOnWith(rule + "ant a of r at 1 2 faces " + side, ";");
        }
    }

    private static void paintLine() {
        goesOnWith("paint", "7");
        goesOnWith("paint 1", "7");
        goesOnWith("paint 1 2", "7");
        goesOnWith("paint 1 2 3", ";");
    }

    private static void orderLines() {
        goesOnWith(ANT + "wash", "7");
        goesOnWith(ANT + "wash 1", "to");
        goesOnWith(ANT + "wash 1 to", "7");
        goesOnWith(ANT + "wash 1 to 2", "when");
        goesOnWith(ANT + "face", "name");
        goesOnWith(ANT + "face a", SIDE);
        goesOnWith(ANT + "halt", "name");
        goesOnWith(ANT + "halt a", "when");
        goesOnWith(ANT + "walk", "name");
        goesOnWith(ANT + "walk a", "when");
        for (String side : SIDE.split(" ")) {
            goesOnWith(ANT + "face a " + side, "when");
        }
        for (String order : new String[] {"wash 1 to 2", "face a west", "halt a", "walk a"}) {
            goesOnWith(ANT + order + " when", TEST);
            goesOnWith(ANT + order + " when meets a", "and or ;");
        }
    }

    private static void tests() {
        for (String before : new String[] {"not", "[", "not not", "not [", "[ not", "[ [", "halted a and", "halted a or",
            "1 = 1 and", "1 = 1 or", "not 1 = 1 and", "[ 1 = 1 ] or"}) {
            goesOnWith(WHEN + before, TEST);
        }
        for (String whole : new String[] {"meets a", "halted a", "not meets a", "[ meets a ]", "not [ not halted a ]",
            "1 = 1 and meets a", "[ 1 = 1 or 1 = 1 ]", "meets a or meets a and meets a"}) {
            goesOnWith(WHEN + whole, "and or ;");
            goesOnWith(WHEN + "[ " + whole, "and or ]");
        }
        goesOnWith(WHEN + "meets", "name");
        goesOnWith(WHEN + "halted", "name");
        goesOnWith(WHEN + "[ [ meets a ]", "and or ]");
    }

    private static void sums() {
        for (String value : new String[] {"1", "step", "dark", "across a", "down a", "period a", "row ( 1 )", "- 1", "( 1 )",
            "min ( 1 , 2 )", "max ( 1 , 2 )", "1 + 2", "1 - 2", "1 * 2", "1 / 2", "- - 1 * ( 2 )"}) {
            goesOnWith(WHEN + value, SIGN + COMPARISON);
            goesOnWith(WHEN + "1 = " + value, SIGN + "and or ;");
            goesOnWith(WHEN + "[ 1 = " + value, SIGN + "and or ]");
            goesOnWith(WHEN + "( " + value, SIGN + ")");
            goesOnWith(WHEN + "row ( " + value, SIGN + ")");
            goesOnWith(WHEN + "min ( " + value, SIGN + ",");
            goesOnWith(WHEN + "max ( 1 , " + value, SIGN + ")");
        }
        for (String comparison : COMPARISON.split(" ")) {
            goesOnWith(WHEN + "1 " + comparison, VALUE);
        }
        for (String sign : (SIGN + "( -").split(" ")) {
            goesOnWith(WHEN + (sign.equals("(") ? "(" : "1 " + sign), VALUE);
            goesOnWith(WHEN + "1 = " + (sign.equals("(") ? "(" : "1 " + sign), VALUE);
        }
        for (String word : new String[] {"row", "min", "max"}) {
            goesOnWith(WHEN + word, "(");
            goesOnWith(WHEN + word + " (", VALUE);
        }
        for (String word : new String[] {"across", "down", "period"}) {
            goesOnWith(WHEN + word, "name");
        }
        goesOnWith(WHEN + "-", VALUE);
        goesOnWith(WHEN + "min ( 1 ,", VALUE);
        goesOnWith(WHEN + "max ( 1 ,", VALUE);
    }

    private static void unclosedGroups() {
        goesOnWith(WHEN + "( ( 1 )", SIGN + ")");
        goesOnWith(WHEN + "( min ( 1 , 2 )", SIGN + ")");
        goesOnWith(WHEN + "min ( ( 1 )", SIGN + ",");
        goesOnWith(WHEN + "[ ( 1 )", SIGN + COMPARISON);
        goesOnWith(WHEN + "[ row ( 1 ) = ( 1 )", SIGN + "and or ]");
    }

    /** What opens a depth, what closes it, and where in the opener the sign stands that is refused. */
    private static final String[][] VALUE_NESTS = {{"(", ")", "0"}, {"- ", "", "0"}, {"row(", ")", "3"},
        {"min(", ",1)", "3"}, {"max(", ",1)", "3"}, {"min(1,", ")", "3"}, {"max (1,", ")", "4"}};
    private static final String[][] TEST_NESTS = {{"[", "]", "0"}, {"not ", "", "0"}};

    private static void nested(String before, String[] nest, int free, String inmost, String behind) {
        String opens = before + nest[0].repeat(free);
        Check.taught(opens + inmost + nest[1].repeat(free) + behind);
        Check.error(opens + nest[0] + inmost + nest[1].repeat(free + 1) + behind, 1,
            opens.length() + Integer.parseInt(nest[2]));
    }

    private static void deepest() {
        for (String[] nest : VALUE_NESTS) {
            nested("wash 1 to 2 when ", nest, 8, "1", " = 1;");
            nested("wash 1 to 2 when 1 = ", nest, 8, "1", ";");
            nested("wash 1 to 2 when 1 - 1 * ", nest, 8, "1", " = 1;");
        }
        for (String[] nest : TEST_NESTS) {
            nested("wash 1 to 2 when ", nest, 8, "1 = 1", ";");
            nested("wash 1 to 2 when 1 = 1 or 1 = 1 and ", nest, 8, "1 = 1", ";");
        }
    }

    private static void deepestInEachOrder() {
        for (String order : new String[] {"wash 1 to 2", "face a west", "halt a", "walk a"}) {
            for (String[] nest : VALUE_NESTS) {
                nested(ANT + order + " when ", nest, 8, "1", " = 1;");
            }
            for (String[] nest : TEST_NESTS) {
                nested(ANT + order + " when ", nest, 8, "meets a", ";");
            }
        }
    }

    private static void deepestOfTwoKinds() {
        for (int outside = 1; outside <= 7; outside++) {
            for (String[] value : VALUE_NESTS) {
                for (String[] test : TEST_NESTS) {
                    nested("wash 1 to 2 when " + test[0].repeat(outside), value, 8 - outside, "1",
                        " = 1" + test[1].repeat(outside) + ";");
                }
                for (String[] other : VALUE_NESTS) {
                    nested("wash 1 to 2 when " + other[0].repeat(outside), value, 8 - outside, "1",
                        other[1].repeat(outside) + " = 1;");
                }
            }
            for (String[] test : TEST_NESTS) {
                for (String[] other : TEST_NESTS) {
                    nested("wash 1 to 2 when " + other[0].repeat(outside), test, 8 - outside, "1 = 1",
                        other[1].repeat(outside) + ";");
                }
            }
        }
    }

    private static void depthEndsBehind() {
        String eight = "((((((((1))))))))";
        String seven = "(((((((1)))))))";
        String eightTests = "[[[[[[[[1 = 1]]]]]]]]";
        String eightMinus = "- ".repeat(8);
        String eightNot = "not ".repeat(8);
        String when = "wash 1 to 2 when ";
        Check.taught(when + eight + " + " + eight + " * " + eight + " = " + eight + " - " + eight + ";");
        Check.taught(when + eightTests + " and " + eightTests + " or " + eightTests + ";");
        Check.taught(when + eightMinus + "1 - " + eightMinus + "1 * " + eightMinus + "1 = " + eight + ";");
        Check.taught(when + eightNot + "1 = 1 and " + eightNot + "1 = 1 or " + eightTests + ";");
        Check.taught(when + eightTests + "; " + when + eight + " = 1;");
        Check.taught(when + "min(" + seven + ", " + seven + ") = max(" + seven + ", " + seven + ");");
        Check.taught(when + "row(" + seven + ") = row(" + seven + " + " + seven + ") * (" + seven + ");");
        Check.errorAtMark(1, when + "min(1, " + "(".repeat(7) + "^" + seven);
        Check.errorAtMark(1, when + "max(" + "(".repeat(7) + "^" + seven);
    }

    /** What stands behind the value that - turns, or behind the test that not turns, is not as deep. */
    private static void depthEndsBehindWhatIsTurned() {
        String when = "wash 1 to 2 when ";
        String values = when + "(((((((";
        String closed = "))))))) = 1;";
        Check.taught(values + "- 1 + (1)" + closed);
        Check.taught(values + "- 1 * - 1" + closed);
        Check.errorAtMark(1, values + "- ^(1)" + closed);
        Check.errorAtMark(1, values + "- ^- 1" + closed);
        String tests = when + "[[[[[[[";
        Check.taught(tests + "not 1 = 1 and [1 = 1]" + "]]]]]]];");
        Check.taught(tests + "not 1 = 1 or 1 = (1)" + "]]]]]]];");
        Check.errorAtMark(1, tests + "not ^[1 = 1]" + "]]]]]]];");
        Check.errorAtMark(1, tests + "not 1 = ^(1)" + "]]]]]]];");
        Check.errorAtMark(1, tests + "not 1 + 1 = 1 * ^- 1" + "]]]]]]];");
    }

    private static void minusBetweenValuesIsNotDeeper() {
        String values = "wash 1 to 2 when ((((((((";
        Check.taught(values + "1 - 1 - 1)))))))) - 1 = 1;");
        Check.errorAtMark(1, values + "1 - ^- 1)))))))) = 1;");
        Check.errorAtMark(1, values + "^- 1)))))))) = 1;");
        Check.taught("wash 1 to 2 when " + "- ".repeat(8) + "1 - 1 - 1 = 1 - 1;");
    }

    private static void fourHundredTokens() {
        String most = "paint 1 2 3;".repeat(80);
        String fewer = "paint 1 2 3;".repeat(79);
        Check.taught(most);
        Check.taught(most + " \n ");
        for (String token : TOKENS) {
            Check.error(most + " " + token, 1, 961);
        }
        Check.error("!" + most, 1, 0);
        Check.error(fewer + "paint 1 2 3 4", 1, 948 + 12);
        Check.error(fewer + "paint 1 2 3 4; paint", 1, 948 + 12);
        Check.error(fewer + "paint 1 2 3", 1, 959);
        Check.error(fewer + "paint 1 2 3  ", 1, 961);
        // 395 tokens and five more are not yet a rule; the sixth one is one too many
        Check.error(fewer + "rule r left left left", 1, 948 + 21);
        Check.error(fewer + "rule r left left left ;", 1, 948 + 22);
        Check.taught(fewer + "rule r left left;");
        Check.error("paint 64 2 3;" + most, 1, 961);
        Check.error("paint 64 2 3;" + most.substring(12), 5, 6);
        Check.error("(".repeat(1000), 1, 0);
        Check.error("wash 1 to 2 when 1" + "+1".repeat(196) + "= 1;", 1, 18 + 2 * 196 + 3);
        Check.taught("wash 1 to 2 when 1" + "+1".repeat(195) + "= 1 ;");
        Check.taught("rule r" + " left".repeat(6) + ";");
        Check.error("rule r" + " left".repeat(397) + ";", 4, 7 + 30);
        Check.error("rule r" + " left".repeat(398) + ";", 1, 6 + 5 * 398);
    }

    private static void endOfTheTape() {
        Check.errorAtMark(1, "paint 1 2 3^");
        Check.errorAtMark(1, "paint 1 2 3 \n ^");
        Check.errorAtMark(1, "paint 1 2 3; halt^");
        FlagAnts x = new FlagAnts();
        Check.type(x, "paint 1 2 3; paint 4 5");
        x.trim(12);
        Check.due("what is trimmed off is not read", 0, x.teach());
        Check.due("stone", 3, x.stone(1, 2));
    }
}
