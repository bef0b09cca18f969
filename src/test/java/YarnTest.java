/** Promises 43 to 49: yarn, predictions and the invariants. */
final class YarnTest {
    public static void main(String[] args) {
        withoutSetup();
        yarn();
        yarnNeeded();
        nextCard();
        obstacles();
        picksPossible();
        picksUntilStuck();
        imbalance();
        Check.end("YarnTest");
    }

    private static void withoutSetup() {
        CardLoom x = new CardLoom();
        Check.fails("43", Check.STATE, () -> x.yarn(-1));
        Check.fails("44", Check.STATE, () -> x.yarnNeeded(-1));
        Check.fails("45", Check.STATE, x::nextCard);
        Check.fails("46", Check.STATE, x::weaveObstacle);
        Check.fails("47", Check.STATE, x::picksPossible);
        Check.fails("48", Check.STATE, x::picksUntilStuck);
        Check.fails("49", Check.STATE, x::imbalance);
    }

    private static void yarn() {
        CardLoom x = Given.loom(Given.SAMPLE + ";yarn c 1;yarn f 999;weave 3");
        int[] due = {0, 0, 185, 52, 0, 999};
        for (int colour = 0; colour < 6; colour++) {
            Check.same("43: " + colour, x.yarn(colour), due[colour]);
        }
        x.setCardColour(0, 5);
        x.unweave(3);
        Check.same("43: removing gives back", x.yarn(2) + "," + x.yarn(3) + "," + x.yarn(5), "201,60,999");
        for (int bad : new int[] {-1, 6, Integer.MAX_VALUE, Integer.MIN_VALUE}) {
            Check.fails("43: " + bad, Check.ARGUMENT, () -> x.yarn(bad));
            Check.fails("44: " + bad, Check.ARGUMENT, () -> x.yarnNeeded(bad));
        }
    }

    private static void yarnNeeded() {
        CardLoom x = Given.loom(Given.SAMPLE);
        Check.same("44", x.yarnNeeded(2) + "," + x.yarnNeeded(3) + "," + x.yarnNeeded(0), "64,24,0");
        x.weave(2);
        Check.same("44: from the next pick", x.yarnNeeded(2) + "," + x.yarnNeeded(3), "56,16");
        x.setCardColour(1, 4);
        Check.same("44: by the colours now", x.yarnNeeded(3) + "," + x.yarnNeeded(4), "0,16");
        Check.same("44: from the start again", Given.loom(Given.SAMPLE + ";weave 11").yarnNeeded(2), 64);
        Check.same("44: the last pick", Given.loom(Given.SAMPLE + ";weave 10").yarnNeeded(2), 8);
        Check.same("44: one pick", Given.loom("loom 2 9;warp a 0 1;card b;deck 0").yarnNeeded(1), 2);
        Check.same("44: without picks", Given.loom("loom 2 9;warp a 0;card a").yarnNeeded(0), 0);
    }

    private static void nextCard() {
        CardLoom x = Given.loom("loom 2 99;warp a 0;card a;card a 0;deck 0 1 1;yarn a 99");
        StringBuilder next = new StringBuilder();
        for (int n = 0; n < 7; n++) {
            next.append(x.nextCard());
            x.weave(1);
        }
        Check.same("45", next.toString(), "0110110");
        x.weave(53);
        Check.same("45: behind the last row", x.rowCount() + "," + x.nextCard(), "60,0");
        Check.same("45: none", Given.loom("loom 2 9;warp a 0;card a").nextCard(), CardLoom.NONE);
    }

    private static void obstacles() {
        String two = "loom 2 99;warp a 0 1;card b 0 1;";
        Check.same("46: no picks", Given.loom(two + "motor 1").weaveObstacle(), 1);
        Check.same("46: sixty rows before yarn", Given.loom(two + "deck 0;yarn b 120;weave 60").weaveObstacle(), 2);
        Check.same("46: yarn before the motor", Given.loom(two + "deck 0;yarn b 1;motor 1").weaveObstacle(), 3);
        Check.same("46: enough yarn", Given.loom(two + "deck 0;yarn b 2").weaveObstacle(), 0);
        Check.same("46: motor", Given.loom(two + "deck 0;yarn b 2;motor 1").weaveObstacle(), 4);
        Check.same("46: strong enough", Given.loom(two + "deck 0;yarn b 2;motor 2").weaveObstacle(), 0);
        CardLoom dyed = Given.loom(two + "deck 0;yarn b 2");
        dyed.setCardColour(0, 2);
        Check.same("46: the colour now", dyed.weaveObstacle(), 3);
        CardLoom broken = Given.loom(two + "deck 0;yarn b 9;strain 1;weave 1;motor 1");
        Check.same("46: broken warps count", broken.weaveObstacle(), 4);
        CardLoom stuck = Given.loom("loom 2 2;warp a 0 1;card b 0 1;card b;deck 0 1;yarn b 9;weave 2;motor 1");
        Check.same("46: stuck harnesses count", stuck.isStuck(0) + "," + stuck.weaveObstacle(), "true,4");
    }

    private static void picksPossible() {
        CardLoom x = Given.loom(Given.SAMPLE);
        Check.same("47", x.picksPossible(), 29);
        Check.same("47: a prediction", x.rowCount() + "," + x.yarn(2), "0,200");
        x.bringYarn(2, 999);
        x.bringYarn(3, 999);
        Check.same("47: most", x.picksPossible(), 60);
        x.weave(23);
        Check.same("47: the rows left", x.picksPossible(), 37);
        x.weave(37);
        Check.same("47: none left", x.picksPossible(), 0);
        Check.same("47: no picks", Given.loom("loom 2 9;warp a 0").picksPossible(), 0);
        String motor = "loom 2 99;warp a 0 0 1;card b 1;card b 0;deck 0 0 0 1;yarn b 99;motor 1";
        Check.same("47: until the motor is too weak", Given.loom(motor).picksPossible(), 3);
        CardLoom same = Given.loom(Given.SAMPLE);
        Check.same("47: weaving agrees", same.weave(60), 29);
    }

    private static void picksUntilStuck() {
        CardLoom x = Given.loom("loom 2 3;warp a 0 1;card b 0;card b 1;deck 0 1;yarn b 99");
        Check.same("48", x.picksUntilStuck(), 3);
        Check.same("48: a prediction", x.rowCount() + "," + x.wear(0) + "," + x.yarn(1), "0,0,99");
        x.weave(3);
        Check.same("48: the other harness", x.picksUntilStuck(), 1);
        x.weave(1);
        Check.same("48: both are stuck", x.picksUntilStuck(), CardLoom.NONE);
        x.oil(1);
        Check.same("48: oiled", x.picksUntilStuck(), 6 - 3);
        String sixty = "loom 2 60;warp a 0;card b 0;card b;deck 0 1;yarn b ";
        Check.same("48: most", Given.loom(sixty + "60").picksUntilStuck(), 60);
        Check.same("48: an obstacle first", Given.loom(sixty + "59").picksUntilStuck(), CardLoom.NONE);
        Check.same("48: no picks", Given.loom("loom 2 1;warp a 0").picksUntilStuck(), CardLoom.NONE);
        Check.same("48: sixty rows first", Given.loom("loom 2 61;warp a 0;card b 0;card b;deck 0 1;yarn b 99").picksUntilStuck(), -1);
    }

    private static void imbalance() {
        CardLoom x = Given.loom(Given.SAMPLE);
        Check.same("49: at first", x.imbalance(), 0);
        x.weave(20);
        Check.same("49: woven", x.imbalance(), 0);
        x.saveState(0);
        x.bringYarn(0, 999);
        x.unweave(7);
        Check.same("49: removed", x.imbalance(), 0);
        x.punch(0, 0);
        x.weave(60);
        Check.same("49: changed", x.imbalance() + "," + (x.wrongCount() > 0), "0,true");
        x.undo();
        x.undo();
        Check.same("49: undone", x.imbalance(), 0);
        x.restoreState(0);
        Check.same("49: restored", x.imbalance(), 0);
        Check.same("49: stuck", Given.loom("loom 2 1;warp a 0;card b 0;card b;deck 0 1;yarn b 9;weave 9").imbalance(), 0);
        Check.same("49: stuck, then oiled", Given.loom(
                "loom 2 1;warp a 0;card b 0;card b;deck 0 1;yarn b 9;weave 9;oil 0").imbalance(), 0);
        Check.same("49: broken, then mended", Given.loom(
                "loom 2 9;warp a 0;card b 0;deck 0;yarn b 9;strain 1;weave 2;mend 0").imbalance(), 0);
        Check.same("49: swapped", Given.loom(Given.SAMPLE + ";swap 0 1;weave 4;swap 0 1").imbalance(), 0);
        Check.same("49: inverted", Given.loom(Given.SAMPLE + ";invert 0;weave 4;invert 0").imbalance(), 0);
        Check.same("49: dyed", Given.loom(Given.SAMPLE + ";dye 0 d;weave 4;dye 0 c").imbalance(), 0);
    }
}
