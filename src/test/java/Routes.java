import java.math.BigInteger;

/** Short ways to the states that the tests look at. */
final class Routes {
    private static final BigInteger FACTOR = BigInteger.valueOf(48271);
    private static final BigInteger MODULUS = BigInteger.valueOf(2147483647);
    /** Below 40 plays the needle wears a disc by no more than 1 at each. */
    private static final int PLAYS_A_NEEDLE = 30;

    private Routes() {
    }

    /** One box without a share, visited in this week, with discs of song 1 in its slots from 0 on. */
    static SelectoRoute withBox(int taste, int... strengths) {
        SelectoRoute x = new SelectoRoute();
        x.addBox(0, taste);
        x.visit(0);
        for (int strength : strengths) {
            int disc = x.addDisc(1, strength, 0);
            x.change(0, disc, disc);
        }
        return x;
    }

    /** The seed that is followed by this z. */
    static int seedAhead(int z) {
        return BigInteger.valueOf(z).multiply(FACTOR.modInverse(MODULUS)).mod(MODULUS).intValueExact();
    }

    static void pass(SelectoRoute x, int weeks) {
        for (int i = 0; i < weeks; i++) {
            x.pass();
        }
    }

    /** Brings a box that is not jammed from no credit to so many. */
    static void fillCredits(SelectoRoute x, int box, int credits) {
        while (x.getCredits(box) + 6 <= credits) {
            x.insert(box, 's');
        }
        while (x.getCredits(box) < credits) {
            x.insert(box, 'n');
        }
    }

    /** Presses a key of a box and lets it play, so many times, paid by slugs where no credit is left. */
    static void play(SelectoRoute x, int box, int slot, int times) {
        for (int i = 0; i < times; i++) {
            if (x.getCredits(box) == 0) {
                x.insert(box, 's');
            }
            x.press(box, slot);
            x.play(box);
        }
    }

    /** Wears a disc by 1 at each play: the box is visited, and its needle is changed in time. */
    static void wear(SelectoRoute x, int box, int slot, int times) {
        for (int left = times; left > 0; left -= PLAYS_A_NEEDLE) {
            x.changeNeedle(box);
            play(x, box, slot, Math.min(left, PLAYS_A_NEEDLE));
        }
    }

    /** Jams a box that has a slot in its queue; its risk is 20 then. */
    static void jam(SelectoRoute x, int box) {
        x.setRisk(box, 20);
        x.setSeed(seedAhead(19));
        x.play(box);
    }

    /** Spends the van's minutes at a visited box, whose slot is empty, until so many are left. */
    static void spendTo(SelectoRoute x, int box, int emptySlot, int minutes) {
        while (x.getMinutes() >= minutes + 10) {
            x.change(box, emptySlot, -1);
        }
        while (x.getMinutes() > minutes) {
            x.changeNeedle(box);
        }
    }
}
