/** Promises 3 to 5 with section 6 of the terms: tokens, grammar, ranges, conflicts and limits. */
final class SetupTest extends Boundary {
    private static final String W = "loom 2 9;warp a 0 1;";
    private static final String C = W + "card a 0;card b 1;";
    /** Woven twice, with cards 0 and 1. */
    private static final String R = C + "yarn a 99;yarn b 99;deck 0 1;weave 2;";

    public static void main(String[] args) {
        tokens();
        header();
        warps();
        cards();
        deckGrammar();
        deckLimits();
        yarnAndWeaving();
        changes();
        strainMotorMend();
        Check.end("SetupTest");
    }

    private static void tokens() {
        valid("loom2 9;warp a0 1", 0);
        valid("   loom   002   009  ;  warp   a   0  ", 0);
        valid("loom 2 9;warp a 0;card b;card c;deck 0mirror(0 1)1back(0)repeat 2(1)", 8);
        error(1, "", "Loom 2 9;warp a 0");
        error(1, "loom 2 9", ",warp a 0");
        error(1, "loom", "\t2 9;warp a 0");
        error(1, "loom 2 9", "\0warp a 0");
        error(1, "loom 2 9;", "\u00e4");
        error(1, "loom ", "0002 9;warp a 0");
        error(1, "loom 2 9;warp a ", "0000");
        error(1, "loom 2 9;warp a 0 ", "9999999999999999999999");
        error(1, "loom 2 9;", "unweaver 1");
        error(1, "loom 2 9;", "warpa 0");
        error(1, "loom 2 9;", "wa rp a 0");
        error(1, "loom 2 9;", "war");
        error(1, "loom 2 9;", "harp a 0");
        error(1, "", "room 2 9");
        error(1, "", "loomz 2 9");
        error(1, "loom 2 9;", "warps a 0");
        error(1, "loom ", "-2 9");
    }

    private static void header() {
        valid("loom 8 200;warp a 7", 0);
        error(1, "", "warp a 0");
        error(1, "", "2 9");
        error(1, "loom", "");
        error(1, "loom  ", "");
        error(1, "loom 2", "");
        error(1, "loom 2 ", ";warp a 0");
        error(1, "loom ", "x 9");
        error(2, "loom ", "1 9;warp a 0");
        error(2, "loom ", "9 9;warp a 0");
        error(2, "loom 2 ", "0;warp a 0");
        error(2, "loom 2 ", "201;warp a 0");
        error(1, "loom 2 9 ", "9;warp a 0");
        error(1, "loom 2 9 ", "warp a 0");
        error(1, "loom 2 9;", "");
        error(1, "loom 2 9;", ";warp a 0");
        error(1, W, "");
        error(1, W, "loom 2 9");
        error(1, W, "3");
        error(4, "loom 2 9", "");
        error(4, "loom 2 9;card a 0;deck 0  ", "");
    }

    private static void warps() {
        valid("loom 2 9;warp f 0 1 1 0", 0);
        error(1, "loom 2 9;warp ", "g 0");
        error(1, "loom 2 9;warp ", "ab 0");
        error(1, "loom 2 9;warp ", "0");
        error(1, "loom 2 9;warp a", "");
        error(1, W + "warp", "");
        error(1, "loom 2 9;warp a ", ";");
        error(1, "loom 2 9;warp a ", "a");
        error(1, "loom 2 9;warp a 0 ", "b 1");
        error(1, "loom 2 9;warp a 0 ", "(");
        error(2, "loom 2 9;warp a ", "2");
        error(2, "loom 2 9;warp a 0 1 ", "2 999");
        String full = "loom 2 9;warp a" + Given.repeated(" 0", 24);
        valid(full, 0);
        error(4, full + " ", "1");
        error(4, full + ";warp b ", "1");
        error(2, full + ";warp b ", "2");
        error(1, full + ";warp b ", "0000");
        error(3, R, "warp a 0");
        valid(R + "unweave 2;warp a 0", 2);
        error(3, R + "unweave 1;", "warp a 0");
    }

    private static void cards() {
        valid(W + "card a;card a 1 0", 0);
        error(1, W + "card ", "");
        error(1, W + "card ", "1");
        error(1, W + "card ", "g 1");
        error(1, W + "card a 0 ", "b");
        error(2, W + "card a 0 ", "2");
        error(3, W + "card a 0 1 ", "0");
        error(3, W + "card a 0 ", "000");
        String full = W + Given.repeated("card a;", 12);
        valid(full + "deck 11", 1);
        error(4, full, "card a");
        error(4, full, "card");
        valid(R + "card c", 2);
    }

    private static void deckGrammar() {
        valid(C + "deck 0 1;deck 1", 3);
        valid(C + "deck repeat 20(0)", 20);
        valid(C + "deck mirror(0)", 1);
        valid(C + "deck back(0 1 0)", 3);
        valid(C + "deck mirror(repeat 2(back(0 1)0))", 11);
        error(1, C + "deck", "");
        error(1, C + "deck ", ";");
        error(1, C + "deck ", "a");
        error(1, C + "deck ", "(0)");
        error(1, C + "deck ", ")");
        error(1, C + "deck 0 ", ")");
        error(1, C + "deck 0 ", "(0)");
        error(1, C + "deck 0 ", "card a");
        error(1, C + "deck mirror", "");
        error(1, C + "deck mirror ", "0");
        error(1, C + "deck mirror ", "2(0)");
        error(1, C + "deck back(", "");
        error(1, C + "deck back(", ")");
        error(1, C + "deck back(", ";");
        error(1, C + "deck 0 back(", ")");
        error(1, C + "deck back(0", "");
        error(1, C + "deck back(0", ";deck 0");
        error(1, C + "deck back(0)", ")");
        error(1, C + "deck back(0 ", "(0)");
        error(1, C + "deck repeat", "(0)");
        error(1, C + "deck repeat 2", "");
        error(1, C + "deck repeat 2 ", "3(0)");
        error(1, C + "deck repeat ", "back(0)");
        error(2, C + "deck repeat ", "0(0)");
        error(2, C + "deck repeat ", "21(0)");
        error(1, C + "deck repeat ", "0021(0)");
        error(2, C + "deck ", "2");
        error(2, C + "deck 0 back(1 ", "2)");
        error(2, W + "deck ", "0");
        error(3, R, "deck 0");
        error(3, R + "unweave 1;", "deck 0");
        valid(R + "unweave 2;deck 0", 3);
    }

    private static void deckLimits() {
        String hundred = C + "deck repeat 20(0 1 0 1 1)";
        valid(hundred, 100);
        error(4, hundred + " ", "0");
        error(4, hundred + ";deck ", "1");
        error(2, hundred + " ", "2");
        error(4, hundred + " back(0", ")");
        error(2, hundred + " back(", "2)");
        String ninetyNine = C + "deck repeat 20(0 0 0 0)repeat 19(1)";
        valid(ninetyNine + " 0", 100);
        error(4, ninetyNine + " 0 ", "0");
        valid(ninetyNine + " mirror(0)", 100);
        error(4, ninetyNine + " mirror(0 0", ")");
        error(4, ninetyNine + " back(0 1", ")");
        error(4, ninetyNine + " repeat 2(0", ")");
        error(4, C + "deck repeat 20(0 1 0 1 1 0", ")");
        error(4, C + "deck mirror(repeat 17(0 1 0)", ")");
        valid(C + "deck mirror(repeat 10(0 1 0 1 1))", 99);
        error(4, C + "deck 0 0 mirror(repeat 10(0 1 0 1 1)", ")");
        // The list in brackets is measured, not the whole deck: up to a hundred picks fit in before it is closed.
        error(4, ninetyNine + " back(repeat 20(0 1 1 1 0) ", "1)");
        error(4, ninetyNine + " back(repeat 20(0 1 1 1 0)", ")");
        error(4, C + "deck back(repeat 20(0 1 1 1) repeat 7(0 0 0", "))");

        valid(C + "deck back(back(back(0)))", 1);
        error(4, C + "deck back(repeat 2(mirror(", "back");
        error(4, C + "deck back(repeat 2(mirror(0 ", "mirror(");
        error(4, C + "deck back(back(back(0)back(0 ", "repeat");
        valid(C + "deck back(back(back(0)back(0)))back(back(back(1)))", 3);
        error(1, C + "deck back(back(back(0 ", "card");
    }

    private static void yarnAndWeaving() {
        valid(W + "yarn a 1;yarn f 999;yarn a 999", 0);
        error(1, W + "yarn ", "g 1");
        error(1, W + "yarn a", "");
        error(1, W + "yarn", "");
        error(1, W + "yarn a ", "a");
        error(2, W + "yarn a ", "0");
        error(1, W + "yarn a ", "1000");
        error(1, W + "yarn a 1 ", "1");

        error(1, R + "weave", "");
        error(1, R + "weave ", "a");
        error(2, R + "weave ", "0");
        error(2, R + "weave ", "61");
        error(3, W + "weave ", "1");
        error(2, W + "weave ", "61");
        String plenty = C + "deck 0;yarn a 999;";
        valid(plenty + "weave 60", 1);
        valid(plenty + "weave 1;weave 59", 1);
        error(3, plenty + "weave 1;weave ", "60");
        valid(C + "deck 0;yarn a 7;weave 3", 1);
        error(3, C + "deck 0;yarn a 7;weave ", "4");
        error(3, plenty + "punch 0 1;motor 1;weave ", "1");
        valid(plenty + "punch 0 1;motor 2;weave 1", 1);

        valid(R + "unweave 1;unweave 1", 2);
        error(2, R + "unweave ", "0");
        error(2, R + "unweave ", "61");
        error(3, R + "unweave ", "3");
        error(3, W + "unweave ", "1");
        error(1, R + "unweave ", ";");
    }

    private static void changes() {
        valid(C + "swap 0 1;swap 1 0", 0);
        error(1, C + "swap ", "");
        error(1, C + "swap ", "a 1");
        error(1, C + "swap 0", ";");
        error(2, C + "swap ", "2 0");
        error(2, C + "swap 0 ", "2");
        error(3, C + "swap 1 ", "1");
        error(3, C + "swap 1 ", "001");
        error(2, W + "swap ", "0 0");

        valid(C + "punch 0 1;punch 0 1", 0);
        error(2, C + "punch ", "2 0");
        error(2, C + "punch 0 ", "2");
        error(1, C + "punch 0", "");
        error(1, C + "punch 0 ", "a");

        valid(C + "dye 0 f;dye 0 f", 0);
        error(2, C + "dye ", "2 a");
        error(1, C + "dye 0 ", "g");
        error(1, C + "dye 0 ", "0");
        error(1, C + "dye ", "a 0");
        error(1, C + "dye 0", "");

        valid(C + "oil 0;oil 1", 0);
        error(2, C + "oil ", "2");
        error(1, C + "oil", "");

        valid(C + "invert 1;invert 1", 0);
        error(2, C + "invert ", "2");
        error(1, C + "invert ", "a");
        error(1, C + "invert 1 ", "1");

        CardLoom x = Given.loom("loom 3 9;warp a 0;card a 0 1;card b 2;swap 0 1;punch 1 2;dye 0 f;invert 0");
        Check.same("swap, dye, invert", Given.card(x, 0), "oo. f");
        Check.same("swap, punch", Given.card(x, 1), "ooo a");
        CardLoom oiled = Given.loom("loom 2 1;warp a 0;card a 0;card a;deck 0 1;yarn a 9;weave 1;oil 0;weave 1");
        Check.same("an oiled harness moves on", oiled.wear(0) + "," + oiled.isLifted(0), "1,false");
    }

    private static void strainMotorMend() {
        valid(W + "strain 0;strain 60;motor 1;motor 24", 0);
        error(1, W + "strain ", "a");
        error(2, W + "strain ", "61");
        error(1, W + "motor ", "");
        error(2, W + "motor ", "0");
        error(2, W + "motor ", "25");

        String breaking = W + "card b 0;deck 0;yarn b 99;strain 2;weave 2;";
        valid(breaking + "mend 0", 1);
        error(3, breaking + "mend ", "1");
        error(3, breaking + "mend 0;mend ", "0");
        error(2, breaking + "mend ", "2");
        error(1, breaking + "mend ", "a");
        error(2, "loom 2 9;mend ", "0");
        CardLoom x = Given.loom(breaking + "mend 0;weave 1");
        Check.same("a mended warp breaks again", x.isBroken(0) + Given.row(x, 2), "trueAb");
        Check.same("the strain limit 0 breaks none",
                Given.loom(W + "card b 0;deck 0;yarn b 99;strain 2;strain 0;weave 30").brokenCount(), 0);
        Check.same("the motor's first strength",
                Given.loom("loom 2 9;warp a" + Given.repeated(" 0", 24) + ";card a 0;deck 0;yarn a 24").weaveObstacle(), 0);
    }
}
