/** Promises 7 to 22: harnesses, warps and cards. */
final class LoomTest {
    /** Harness 0 is stuck (lifted), warp 0 is broken; the cloth has three rows. */
    private static final String WORN = "loom 3 2;warp a 0 1;warp e 0;card b 0;card c 0 1;card d;deck 1 2 0 1;"
            + "yarn b 9;yarn c 99;yarn d 9;";

    public static void main(String[] args) {
        withoutSetup();
        harnessesAndWarps();
        movingAndWear();
        breaking();
        cards();
        Check.end("LoomTest");
    }

    private static void withoutSetup() {
        CardLoom x = new CardLoom();
        Check.fails("7", Check.STATE, x::harnessCount);
        Check.fails("8", Check.STATE, x::warpCount);
        Check.fails("9", Check.STATE, () -> x.warpHarness(-1));
        Check.fails("10", Check.STATE, () -> x.warpColour(-1));
        Check.fails("11", Check.STATE, () -> x.warpsOn(-1));
        Check.fails("12", Check.STATE, () -> x.isBroken(-1));
        Check.fails("13", Check.STATE, x::brokenCount);
        Check.fails("14", Check.STATE, () -> x.isLifted(-1));
        Check.fails("15", Check.STATE, () -> x.wear(-1));
        Check.fails("16", Check.STATE, () -> x.isStuck(-1));
        Check.fails("17", Check.STATE, x::cardCount);
        Check.fails("18", Check.STATE, () -> x.lifts(-1, -1));
        Check.fails("19", Check.STATE, () -> x.cardColour(-1));
        Check.fails("20", Check.STATE, () -> x.liftedWarps(-1));
        Check.fails("21", Check.STATE, () -> x.liftDistance(-1, -1));
        Check.fails("22", Check.STATE, () -> x.oppositeCard(-1));
    }

    private static void harnessesAndWarps() {
        CardLoom x = Given.loom(Given.SAMPLE);
        Check.same("7: harnesses", x.harnessCount(), 4);
        Check.same("8: warps", x.warpCount(), 8);
        int[] harnesses = {0, 1, 2, 3, 0, 1, 2, 3};
        for (int warp = 0; warp < 8; warp++) {
            Check.same("9: warp " + warp, x.warpHarness(warp), harnesses[warp]);
            Check.same("10: warp " + warp, x.warpColour(warp), warp < 6 ? 0 : 1);
            Check.same("12: warp " + warp, x.isBroken(warp), false);
        }
        CardLoom most = Given.loom("loom 8 1;warp f" + Given.repeated(" 7", 23) + ";warp e 1");
        Check.same("7: most harnesses", most.harnessCount(), 8);
        Check.same("8: most warps", most.warpCount(), 24);
        Check.same("9, 10: the last warp", most.warpHarness(23) * 10 + most.warpColour(23), 14);
        Check.same("11: many warps", most.warpsOn(7), 23);
        Check.same("11: one warp", most.warpsOn(1), 1);
        Check.same("11: no warp", most.warpsOn(0), 0);
        for (int bad : new int[] {-1, 24, Integer.MAX_VALUE, Integer.MIN_VALUE}) {
            Check.fails("9: " + bad, Check.INDEX, () -> most.warpHarness(bad));
            Check.fails("10: " + bad, Check.INDEX, () -> most.warpColour(bad));
            Check.fails("12: " + bad, Check.INDEX, () -> most.isBroken(bad));
        }
        for (int bad : new int[] {-1, 4, 8, Integer.MAX_VALUE, Integer.MIN_VALUE}) {
            Check.fails("11: " + bad, Check.INDEX, () -> x.warpsOn(bad));
            Check.fails("14: " + bad, Check.INDEX, () -> x.isLifted(bad));
            Check.fails("15: " + bad, Check.INDEX, () -> x.wear(bad));
            Check.fails("16: " + bad, Check.INDEX, () -> x.isStuck(bad));
        }
        Check.fails("9: the warp behind the last", Check.INDEX, () -> x.warpHarness(8));
        Check.fails("10: the warp behind the last", Check.INDEX, () -> x.warpColour(8));
        Check.fails("12: the warp behind the last", Check.INDEX, () -> x.isBroken(8));
    }

    private static String harness(CardLoom x, int harness) {
        return (x.isLifted(harness) ? "up " : "down ") + x.wear(harness) + (x.isStuck(harness) ? " stuck" : "");
    }

    private static void movingAndWear() {
        CardLoom x = Given.loom("loom 2 3;warp a 0 1;card b 0;card b 1;deck 0 1;yarn b 99");
        Check.same("14, 15, 16: at first", harness(x, 0) + "," + harness(x, 1), "down 0,down 0");
        x.weave(1);
        Check.same("14, 15: only what moves wears", harness(x, 0) + "," + harness(x, 1), "up 1,down 0");
        x.weave(1);
        Check.same("14, 15: both move", harness(x, 0) + "," + harness(x, 1), "down 2,up 1");
        x.weave(1);
        Check.same("16: at the limit", harness(x, 0) + "," + harness(x, 1), "up 3 stuck,down 2");
        x.weave(1);
        Check.same("16: a stuck one stays", harness(x, 0) + "," + harness(x, 1), "up 3 stuck,up 3 stuck");
        x.unweave(4);
        Check.same("4: removing rows leaves the harnesses", harness(x, 0), "up 3 stuck");

        CardLoom still = Given.loom("loom 2 3;warp a 0;card b 0;deck 0;yarn b 99;weave 9");
        Check.same("15: lifted again is not moved", harness(still, 0), "up 1");
        CardLoom one = Given.loom("loom 2 1;warp a 0;card b 0;deck 0;yarn b 99;weave 1");
        Check.same("16: a wear limit of 1", harness(one, 0), "up 1 stuck");
    }

    private static void breaking() {
        CardLoom x = Given.loom(WORN + "strain 2;weave 3");
        // Rows: lifted 0 1; harness 0 lowered and then stuck at 2 moves.
        Check.same("4: rows", Given.row(x, 0) + Given.row(x, 1) + Given.row(x, 2), "AAEdddbbb");
        Check.same("13: none broken", x.brokenCount(), 0);

        CardLoom y = Given.loom("loom 2 99;warp a 0 1 0;card b 0;card b 0 1;deck 0 0 1 1;yarn b 99;strain 3;weave 2");
        Check.same("12: too few rows", y.brokenCount(), 0);
        y.weave(1);
        Check.same("12: three rows", y.isBroken(0) + "," + y.isBroken(1) + "," + y.isBroken(2), "true,false,true");
        Check.same("13: two", y.brokenCount(), 2);
        y.weave(1);
        Check.same("12: broken warps show the weft", Given.row(y, 2) + Given.row(y, 3), "AAAbAb");
        Check.same("13: still two", y.brokenCount(), 2);
        y.unweave(4);
        Check.same("4: removing rows leaves broken warps", y.brokenCount(), 2);
        CardLoom later = Given.loom("loom 2 99;warp a 0 1;card b 0;card b 1;deck 0 0 1 1;yarn b 99;strain 2;weave 4");
        Check.same("12: one warp after the other", later.isBroken(0) + "," + later.isBroken(1), "true,true");
        CardLoom first = Given.loom("loom 2 99;warp a 0;card b 0;deck 0;yarn b 99;strain 1;weave 1");
        Check.same("12: the strain limit 1", first.isBroken(0) + Given.row(first, 0), "trueA");
    }

    private static void cards() {
        CardLoom x = Given.loom(Given.SAMPLE + ";card f;card e 0 1 2 3");
        Check.same("17", x.cardCount(), 5);
        Check.same("17: none", Given.loom("loom 2 1;warp a 0").cardCount(), 0);
        Check.same("17: most", Given.loom("loom 2 1;warp a 0" + Given.repeated(";card a", 12)).cardCount(), 12);
        Check.same("18", x.lifts(0, 0) + "," + x.lifts(0, 2) + "," + x.lifts(2, 3) + "," + x.lifts(2, 2),
                "true,false,false,true");
        Check.same("19", x.cardColour(0) * 100 + x.cardColour(1) * 10 + x.cardColour(3), 235);
        Check.same("20", x.liftedWarps(0) * 100 + x.liftedWarps(3) * 10 + x.liftedWarps(4), 408);
        Check.same("20: uneven", Given.loom("loom 2 1;warp a 0 0 1;card a 0").liftedWarps(0), 2);
        Check.same("21", x.liftDistance(0, 1) * 100 + x.liftDistance(0, 2) * 10 + x.liftDistance(1, 1), 420);
        Check.same("21: to all", x.liftDistance(3, 4), 4);
        Check.same("22", x.oppositeCard(0) * 10 + x.oppositeCard(1), 10);
        Check.same("22: none", x.oppositeCard(2), CardLoom.NONE);
        Check.same("22: all and nothing", x.oppositeCard(3) * 10 + x.oppositeCard(4), 43);
        x.setCardColour(3, 0);
        x.punch(4, 0);
        Check.same("22: after a change", x.oppositeCard(3), CardLoom.NONE);
        Check.same("22: none lifts nothing", Given.loom("loom 2 1;warp a 0;card a 0 1").oppositeCard(0), CardLoom.NONE);
        Check.same("22: the first", Given.loom("loom 2 1;warp a 0;card a 0;card b 1;card a 1;card a 0").oppositeCard(3), 1);
        Check.same("20: broken warps count", brokenLift(), 1);
        for (int bad : new int[] {-1, 5, 12, Integer.MAX_VALUE, Integer.MIN_VALUE}) {
            Check.fails("18: card " + bad, Check.INDEX, () -> x.lifts(bad, 0));
            Check.fails("18: harness " + bad, Check.INDEX, () -> x.lifts(0, bad));
            Check.fails("19: " + bad, Check.INDEX, () -> x.cardColour(bad));
            Check.fails("20: " + bad, Check.INDEX, () -> x.liftedWarps(bad));
            Check.fails("21: first " + bad, Check.INDEX, () -> x.liftDistance(bad, 0));
            Check.fails("21: second " + bad, Check.INDEX, () -> x.liftDistance(0, bad));
            Check.fails("22: " + bad, Check.INDEX, () -> x.oppositeCard(bad));
        }
        Check.fails("18: the harness behind the last", Check.INDEX, () -> x.lifts(0, 4));
    }

    private static int brokenLift() {
        return Given.loom("loom 2 99;warp a 0;card b 0;deck 0;yarn b 99;strain 1;weave 1").liftedWarps(0);
    }
}
