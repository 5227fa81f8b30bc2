import java.math.BigInteger;

/** The sums over the route, promises 35 to 38, at the edges that their sentences name. */
public final class SumEdgesTest {
    private static final Class<ArithmeticException> NONE = ArithmeticException.class;

    public static void main(String[] args) {
        noDiscThatIsNotBurnt();
        wearOfSixtyOrMore();
        shareIsAFloat();
        noDiscInABox();
        meanOfZeros();
        meanIsADouble();
        checksumAtFirst();
        checksumStepByStep();
        checksumWrapsAround();
        soundAtItsLimits();
        Checks.finish();
    }

    /** "Throws ArithmeticException if there are none" */
    private static void noDiscThatIsNotBurnt() {
        SelectoRoute x = new SelectoRoute();
        Checks.fails("no disc", NONE, x::wornShare);
        x.addBox(0, 0);
        Checks.fails("a box alone", NONE, x::wornShare);
        x.addDisc(0, 1, 0);
        Checks.same("one disc", x.wornShare(), 0.0f);
        x.addDisc(0, 1, 0);
        x.burn(0);
        Checks.same("one burnt, one not", x.wornShare(), 0.0f);
        x.burn(1);
        Checks.fails("all burnt", NONE, x::wornShare);
    }

    /** "discs, burnt ones aside, with a wear of 60 or more" */
    private static void wearOfSixtyOrMore() {
        SelectoRoute x = Routes.withBox(9, 1, 1);
        Routes.wear(x, 0, 0, 59);
        Checks.same("59", x.wornShare(), 0.0f);
        Routes.wear(x, 0, 0, 1);
        Checks.same("60", x.wornShare(), 0.5f);
        x.change(0, 0, -1);
        Checks.same("60, in the van", x.wornShare(), 0.5f);
        x.change(0, 1, -1);
        x.burn(1);
        Checks.same("the other is burnt", x.wornShare(), 1.0f);
        x.addDisc(1, 1, 0);
        x.burn(0);
        Checks.same("60, burnt", x.wornShare(), 0.0f);
    }

    /** "both converted to float" */
    private static void shareIsAFloat() {
        SelectoRoute x = Routes.withBox(9, 1, 1, 1);
        Routes.wear(x, 0, 2, 60);
        float third = 1.0f / 3.0f;
        Checks.same("a third", x.wornShare(), third);
        Checks.holds("not the third of a double", (double) x.wornShare() != 1.0 / 3.0);
    }

    /** "Throws ArithmeticException if there are none": discs in the van and burnt ones do not count. */
    private static void noDiscInABox() {
        SelectoRoute x = new SelectoRoute();
        Checks.fails("no disc, no box", NONE, x::meanPull);
        x.addBox(0, 9);
        x.addDisc(1, 40, 0);
        Checks.fails("a disc in the van", NONE, x::meanPull);
        x.visit(0);
        x.change(0, 9, 0);
        Checks.same("a disc in the last slot", x.meanPull(), 40.0);
        x.change(0, 9, -1);
        Checks.fails("it is taken out", NONE, x::meanPull);
        x.burn(0);
        Checks.fails("it is burnt", NONE, x::meanPull);
    }

    /** A disc that pulls nobody counts. */
    private static void meanOfZeros() {
        SelectoRoute x = Routes.withBox(9);
        x.addDisc(1, 40, 1);
        x.addDisc(1, 40, 0);
        x.change(0, 0, 0);
        Checks.same("ahead of its week", x.meanPull(), 0.0);
        x.change(0, 1, 1);
        Checks.same("and one in its week", x.meanPull(), 20.0);
        x.addDisc(1, 50, 0);
        Checks.same("not those of the van", x.meanPull(), 20.0);
    }

    /** "both converted to double" */
    private static void meanIsADouble() {
        SelectoRoute x = Routes.withBox(9, 10, 11, 11);
        Checks.same("32 by 3", x.meanPull(), 32.0 / 3.0);
        Checks.holds("not the third of a float", x.meanPull() != (double) (32.0f / 3.0f));
        x.change(0, 2, -1);
        Checks.same("21 by 2", x.meanPull(), 10.5);
    }

    /** "Returns 7 at first", then what the route got, "then plus z" */
    private static void checksumAtFirst() {
        SelectoRoute x = new SelectoRoute();
        Checks.equal("z 1", x.checksum(), 7 * 31 * 31 + 1);
        x.setSeed(2147483646);
        Checks.equal("the greatest z", x.checksum(), 7 * 31 * 31 + 2147483646L);
    }

    /** "for each disc .. its wear; then for each box .. its cents .. its credits .. its needle" */
    private static void checksumStepByStep() {
        SelectoRoute x = new SelectoRoute();
        x.addDisc(1, 1, 0);
        Checks.equal("a disc", x.checksum(), sum(7, 0, 0, 1));
        x.addBox(20, 0);
        Checks.equal("and a box", x.checksum(), sum(7, 0, 0, 0, 0, 0, 1));
        x.insert(0, 'q');
        Checks.equal("cents and credits", x.checksum(), sum(7, 0, 25, 6, 0, 0, 1));
        x.visit(0);
        Checks.equal("earned", x.checksum(), sum(7, 0, 0, 6, 0, 20, 1));
        x.change(0, 0, 0);
        x.press(0, 0);
        x.play(0);
        Checks.equal("wear, needle and z", x.checksum(), sum(7, 1, 0, 5, 1, 20, 48271));
    }

    /** With 30 discs and 4 boxes 44 steps go far beyond a long. */
    private static void checksumWrapsAround() {
        SelectoRoute x = new SelectoRoute();
        for (int box = 0; box < 4; box++) {
            x.addBox(box, box);
            x.insert(box, 'q');
        }
        for (int disc = 0; disc < 30; disc++) {
            x.addDisc(disc, 20, 0);
        }
        int[] parts = new int[1 + 30 + 4 * 3 + 2];
        parts[0] = 7;
        for (int box = 0; box < 4; box++) {
            parts[31 + 3 * box] = 25;
            parts[32 + 3 * box] = 6;
        }
        parts[44] = 1;
        Checks.equal("all discs and boxes", x.checksum(), sum(parts));
        x.burn(29);
        Checks.equal("a burnt disc stays in it", x.checksum(), sum(parts));
    }

    /** The first part, then 31 times itself plus each further part, in 64 bits. */
    private static long sum(int... parts) {
        BigInteger sum = BigInteger.ZERO;
        for (int part : parts) {
            sum = sum.multiply(BigInteger.valueOf(31)).add(BigInteger.valueOf(part));
        }
        return sum.longValue();
    }

    /** "queues hold 8 at most", credits above 99, a jammed box, a full route: it stays sound. */
    private static void soundAtItsLimits() {
        SelectoRoute x = Routes.withBox(9, 50, 40);
        Routes.fillCredits(x, 0, 99);
        for (int i = 0; i < 8; i++) {
            x.press(0, 0);
        }
        Checks.holds("a queue of 8", x.isSound());
        Routes.fillCredits(x, 0, 99);
        x.change(0, 0, -1);
        x.play(0);
        Checks.holds("100 credits", x.isSound());
        Routes.jam(x, 0);
        Checks.holds("jammed", x.isSound());
        while (x.addDisc(1, 30, 0) < 29) {
            Checks.holds("more discs", x.isSound());
        }
        for (int box = 1; box < 4; box++) {
            x.addBox(60, box);
            x.insert(box, 'n');
            x.visit(box);
            Checks.holds("more boxes", x.isSound());
        }
        Routes.pass(x, 99);
        Checks.holds("in the week 99", x.isSound());
        x.visit(0);
        Checks.holds("all cents are taken", x.isSound());
    }
}
