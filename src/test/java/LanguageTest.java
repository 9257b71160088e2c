/** Promises 4 and 5: teach and errorAt; the tokens, the grammar, the depth and the errors. */
public final class LanguageTest {
    private static final String ANT = "rule r left right; ant a of r at 1 1 faces north; ";

    public static void main(String[] args) {
        teaches();
        teachesAnew();
        tokens();
        grammar();
        depth();
        tokenLimit();
        namesTold();
        limits();
        ranges();
        firstError();
        Check.end();
    }

    private static void teaches() {
        FlagAnts x = new FlagAnts();
        Check.due("errorAt of nothing", -1, x.errorAt());
        Check.due("an empty list", 0, x.teach());
        Check.due("errorAt", -1, x.errorAt());
        Check.due("blanks", 0, Check.teach(x, "  \n \n"));
        Check.due("a list", 0, Check.teach(x, ANT + "paint 2 3 4; paint 2 3 1; wash 0 to 63 when step < 0;"));
        Check.due("rules", 1, x.count(1));
        Check.due("ants", 1, x.count(2));
        Check.due("orders", 1, x.count(3));
        Check.due("dark", 1, x.count(4));
        Check.due("colours", 1, x.count(5));
        Check.due("the later paint", 1, x.stone(2, 3));
    }

    private static void teachesAnew() {
        FlagAnts x = Check.taught(ANT + "wash 0 to 63 when step = 2; halt a when step = 3;");
        x.pass(10);
        x.paint(9, 9, 3);
        x.wash(9, 9);
        Check.due("an error", 1, Check.teach(x, "rule q left;"));
        Check.due("its place", 11, x.errorAt());
        Check.due("tape", 0, x.count(10));
        Check.due("steps stay", 10, x.count(0));
        Check.due("rules stay", 1, x.count(1));
        Check.due("the next list", 0, Check.teach(x, "rule q back back;"));
        Check.due("errorAt", -1, x.errorAt());
        int[] due = {0, 1, 0, 0, 0, 0, 0, 0, 0, 0, 0};
        for (int what = 0; what <= 10; what++) {
            Check.due("count(" + what + ") behind the next list", due[what], x.count(what));
        }
        Check.due("turn", 3, x.turn(0, 0));
        Check.due("nothing is told", 0, x.teach());
        Check.due("rules", 0, x.count(1));
    }

    private static void tokens() {
        Check.taught("rule a234567890 left right;");
        Check.errorAtMark(1, "rule ^a2345678901 left right;");
        Check.taught("paint 000063 000000 000005;");
        Check.errorAtMark(1, "paint ^0000063 0 5;");
        Check.taught("paint\n1\n2\n3\n;\n");
        Check.taught("wash 1to 2when 1=1;wash 1to 2when[1=1];");
        Check.taught("wash 1 to 2 when 1<=1 and 1>=1 and 1<2 and 2>1;");
        Check.errorAtMark(1, "wash 1 to 2 when 1 < ^= 1;");
        Check.errorAtMark(1, "wash 1 to 2 when 1 =^< 1;");
        Check.errorAtMark(1, "wash 1 to 2 when 1 <^> 1;");
        Check.errorAtMark(1, "wash 1 to 2 ^when1 = 1;");
        Check.errorAtMark(1, "rule r left^\tright;");
        Check.errorAtMark(1, "rule ^R left right;");
        Check.errorAtMark(1, "rule r left right;^\r");
        Check.errorAtMark(1, "^\0");
        Check.errorAtMark(1, "paint 1 2 3 ^\u00ff;");
        Check.errorAtMark(1, "rule r^_ left right;");
        Check.errorAtMark(1, "paint 1^. 2 3;");
        // 12ab is a number and a word, so it is the word that does not fit
        Check.errorAtMark(1, "paint 12^ab 2 3;");
        Check.taught("rule lefty left right; ant faces1 of lefty at 1 1 faces west; halt faces1 when 1 = 1;");
    }

    private static void grammar() {
        Check.errorAtMark(1, "^;");
        Check.errorAtMark(1, "^left");
        Check.errorAtMark(1, "rule ^left left right;");
        Check.errorAtMark(1, "rule r^;");
        Check.errorAtMark(1, "rule r left^");
        Check.errorAtMark(1, "rule r left right^");
        Check.errorAtMark(1, "rule r left right   ^");
        Check.errorAtMark(1, "rule r left right ^north;");
        Check.errorAtMark(1, "rule r left right; ant ^3");
        Check.errorAtMark(1, "rule r left right; ant a ^at 3 3");
        Check.errorAtMark(1, "ant a of r at 3 ^faces north;");
        Check.errorAtMark(1, "ant a of r at 3 3 ^face north;");
        Check.errorAtMark(1, "ant a of r at 3 3 faces ^left;");
        Check.errorAtMark(1, "paint 1 2 ^;");
        Check.errorAtMark(1, "paint 1 2 3 ^4;");
        Check.errorAtMark(1, "wash 1 ^2 when 1 = 1;");
        Check.errorAtMark(1, "wash ^a to 2 when 1 = 1;");
        Check.errorAtMark(1, "wash 1 to 2^;");
        Check.errorAtMark(1, "wash 1 to 2 when ^;");
        Check.errorAtMark(1, "face a ^when 1 = 1;");
        Check.errorAtMark(1, "face ^north a when 1 = 1;");
        Check.errorAtMark(1, "halt a ^north when 1 = 1;");
        Check.errorAtMark(1, "walk a when 1 ^;");
        Check.errorAtMark(1, "walk a when 1 + ^;");
        Check.errorAtMark(1, "walk a when 1 + 2 = 3 ^= 4;");
        Check.errorAtMark(1, "walk a when [1 = 1^;");
        Check.errorAtMark(1, "walk a when [1 = 1 ^);");
        Check.errorAtMark(1, "walk a when (1 ^= 1);");
        Check.errorAtMark(1, "walk a when (1 ^] = 1;");
        Check.errorAtMark(1, "walk a when 1 = 1 and ^or 1 = 1;");
        Check.errorAtMark(1, "walk a when not ^;");
        Check.errorAtMark(1, "walk a when meets ^1;");
        Check.errorAtMark(1, "walk a when meets a ^= 1;");
        Check.errorAtMark(1, "walk a when 1 = ^meets a;");
        Check.errorAtMark(1, "walk a when row ^1 = 1;");
        Check.errorAtMark(1, "walk a when min(1 ^) = 1;");
        Check.errorAtMark(1, "walk a when max(1, 2 ^, 3) = 1;");
        Check.errorAtMark(1, "walk a when across ^1 = 1;");
        Check.errorAtMark(1, "walk a when ^+");
        Check.taught(ANT + "walk a when meets a or halted a and not not [1 = 1 or -3 * - -(2) / step - dark < row(across a)]"
            + " or min(down a, period a) >= max(1, 2);");
    }

    private static void depth() {
        Check.taught("wash 1 to 2 when ((((((((1)))))))) = 1;");
        Check.errorAtMark(1, "wash 1 to 2 when ((((((((^(1))))))))) = 1;");
        Check.taught("wash 1 to 2 when [[[[[[[[1=1]]]]]]]];");
        Check.errorAtMark(1, "wash 1 to 2 when [[[[[[[[^[1=1]]]]]]]]];");
        Check.taught("wash 1 to 2 when - - - - - - - - 1 = 1;");
        Check.errorAtMark(1, "wash 1 to 2 when - - - - - - - - ^- 1 = 1;");
        Check.taught("wash 1 to 2 when not not not not not not not not 1 = 1;");
        Check.errorAtMark(1, "wash 1 to 2 when not not not not not not not not ^not 1 = 1;");
        Check.errorAtMark(1, "wash 1 to 2 when not [not [-(-(^(1))) = 1]];");
        Check.errorAtMark(1, "wash 1 to 2 when [[[[[[[[row^(1) = 1]]]]]]]];");
        Check.errorAtMark(1, "wash 1 to 2 when [[[[[[[[1 - 1 = min ^(1, 2)]]]]]]]];");
        Check.errorAtMark(1, "wash 1 to 2 when [[[[[[[[1 - 1 - ^-1 = 1]]]]]]]];");
        Check.taught("wash 1 to 2 when [[[[[[[row(1) - max(1, 2) - (3) = -1]]]]]]] and [[[[[[[not 1 = 1]]]]]]];");
        Check.taught("wash 1 to 2 when not not not not [1 = -(- 1)] and not 1 = 1 - 1 - 1 - 1 - 1 - 1 - 1 - 1 - 1 - 1;");
    }

    private static String paints(int lines) {
        return "paint 1 2 3;".repeat(lines);
    }

    private static void tokenLimit() {
        FlagAnts x = Check.taught(paints(80));
        Check.due("stone", 3, x.stone(1, 2));
        Check.error(paints(80) + " ;", 1, 961);
        Check.error(paints(80) + " paint 1 2 3;", 1, 961);
        Check.error(paints(80) + " !", 1, 961);
        // the 400th token is taken, but not the one behind it
        Check.error(paints(79) + "rule r left right left left;", 1, 948 + 23);
        Check.error(paints(79) + "rule r left right left", 1, 948 + 22);
    }

    private static void namesTold() {
        Check.errorAtMark(2, ANT + "rule ^r left right;");
        Check.errorAtMark(2, ANT + "ant ^a of r at 1 1 faces west;");
        Check.taught("rule a left right; ant a of a at 1 1 faces north; halt a when meets a;");
        Check.errorAtMark(3, "ant a of ^r at 1 1 faces north; rule r left right;");
        Check.errorAtMark(3, ANT + "ant b of ^a at 1 1 faces north;");
        Check.errorAtMark(3, ANT + "face ^r west when 1 = 1;");
        Check.errorAtMark(3, ANT + "halt ^b when 1 = 1; ant b of r at 1 1 faces north;");
        Check.errorAtMark(3, ANT + "walk ^b when 1 = 1;");
        for (String sum : new String[] {"across", "down", "period"}) {
            Check.errorAtMark(3, ANT + "walk a when " + sum + " ^r = 1;");
        }
        Check.errorAtMark(3, ANT + "walk a when meets ^r;");
        Check.errorAtMark(3, ANT + "walk a when meets a or halted ^aa;");
        Check.errorAtMark(3, "ant a of ^a at 1 1 faces north;");
    }

    private static void limits() {
        String rules = "";
        for (int i = 0; i < 5; i++) {
            rules += "rule r" + i + " left right left right left right; ";
        }
        Check.due("rules", 5, Check.taught(rules).count(1));
        Check.errorAtMark(4, rules + "rule ^x left right;");
        Check.errorAtMark(2, rules + "rule ^r3 left right;");
        Check.errorAtMark(4, "rule r left left left left left left ^back back;");
        String ants = ANT;
        for (int i = 1; i < 6; i++) {
            ants += "ant a" + i + " of r at 1 1 faces west; ";
        }
        Check.due("ants", 6, Check.taught(ants).count(2));
        Check.errorAtMark(4, ants + "ant ^x of q at 1 1 faces north;");
        Check.errorAtMark(2, ants + "ant ^a5 of r at 1 1 faces north;");
        String orders = ANT;
        for (int i = 0; i < 5; i++) {
            orders += "wash 1 to 2 when 1=1; face a west when 1=1; halt a when 1=1; walk a when 1=1; ";
        }
        Check.due("orders", 20, Check.taught(orders).count(3));
        Check.errorAtMark(4, orders + "^wash 1 to 2 when 1=1;");
        Check.errorAtMark(4, orders + "^face x west when 1=1;");
        Check.errorAtMark(4, orders + "^halt a when 1=1;");
        Check.errorAtMark(4, orders + "^walk a when 1=1;");
        Check.due("paint is no order", 0, Check.teach(new FlagAnts(), orders + "paint 63 63 0;"));
    }

    private static void ranges() {
        Check.taught("rule r left right; ant a of r at 0 63 faces north; ant b of r at 63 0 faces west;");
        Check.errorAtMark(5, "rule r left right; ant a of r at ^64 1 faces north;");
        Check.errorAtMark(5, "rule r left right; ant a of r at 1 ^64 faces north;");
        Check.taught("paint 0 63 0; paint 63 0 5;");
        Check.errorAtMark(5, "paint ^64 1 1;");
        Check.errorAtMark(5, "paint 1 ^999999 1;");
        Check.errorAtMark(5, "paint 1 1 ^6;");
        Check.taught("wash 0 to 0 when 1=1; wash 63 to 63 when 1=1; wash 0 to 63 when 1=1;");
        Check.errorAtMark(5, "wash ^64 to 64 when 1=1;");
        Check.errorAtMark(5, "wash 5 to ^4 when 1=1;");
        Check.errorAtMark(5, "wash 5 to ^64 when 1=1;");
        Check.taught("wash 5 to 6 when 999999 = 64;");
    }

    private static void firstError() {
        Check.errorAtMark(1, "ant a of r at 64 64 faces north; paint 9 9 9^");
        Check.errorAtMark(3, "ant a of ^r at 64 1 faces north; rule r left right; rule r left right;");
        Check.errorAtMark(5, "rule r left right; ant a of r at ^64 1 faces north; rule r left right;");
        Check.errorAtMark(5, ANT + "wash ^64 to 3 when meets b;");
        Check.errorAtMark(3, ANT + "wash 6 to 7 when meets ^b; wash 64 to 3 when meets b;");
    }
}
