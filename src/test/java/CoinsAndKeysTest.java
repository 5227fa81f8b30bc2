import java.util.NoSuchElementException;

/** Promises 6 to 14: coins, keys, the queue, what a play does, and what is read of it. */
public final class CoinsAndKeysTest {
    /** This z is followed by one that ends in 05. */
    private static final int NEXT_IS_5 = 1105902161;

    public static void main(String[] args) {
        coins();
        wrongCoins();
        mostCredits();
        keys();
        wrongKeys();
        queueInOrder();
        plays();
        jam();
        emptySlot();
        wornDisc();
        creditAbove99();
        needleWearsDisc();
        reading();
        Checks.finish();
    }

    /** A route with one box, taste 9, a strong disc in its slots 0 and 1, visited in this week. */
    private static SelectoRoute route() {
        SelectoRoute x = new SelectoRoute();
        x.addDisc(0, 50, 0);
        x.addDisc(1, 50, 0);
        x.addBox(50, 9);
        x.visit(0);
        x.change(0, 0, 0);
        x.change(0, 1, 1);
        return x;
    }

    private static void coins() {
        SelectoRoute x = route();
        Checks.equal("nickel", x.insert(0, 'n'), 1);
        Checks.equal("cents of a nickel", x.getCents(0), 5);
        Checks.equal("dime", x.insert(0, 'd'), 3);
        Checks.equal("cents with a dime", x.getCents(0), 15);
        Checks.equal("quarter", x.insert(0, 'q'), 9);
        Checks.equal("cents with a quarter", x.getCents(0), 40);
        Checks.equal("slug", x.insert(0, 's'), 15);
        Checks.equal("cents with a slug", x.getCents(0), 40);
        Checks.equal("credits", x.getCredits(0), 15);
    }

    private static void wrongCoins() {
        SelectoRoute x = route();
        Class<IllegalArgumentException> none = IllegalArgumentException.class;
        Checks.fails("x", none, () -> x.insert(0, 'x'));
        Checks.fails("N", none, () -> x.insert(0, 'N'));
        Checks.fails("sign 0", none, () -> x.insert(0, (char) 0));
        Checks.fails("sign 65535", none, () -> x.insert(0, (char) 65535));
        Checks.fails("sign of n and 256", none, () -> x.insert(0, (char) ('n' + 256)));
        Checks.outOfBounds("no box 1", () -> x.insert(1, 'n'));
        Checks.outOfBounds("no box -1, no coin x", () -> x.insert(-1, 'x'));
        Checks.equal("nothing was put in", x.getCredits(0), 0);
        x.setRisk(0, 6);
        x.setSeed(NEXT_IS_5);
        x.insert(0, 'n');
        x.press(0, 0);
        Checks.equal("jam", x.play(0), 'j');
        Checks.fails("n into a jammed box", UnsupportedOperationException.class, () -> x.insert(0, 'n'));
        Checks.fails("x into a jammed box", none, () -> x.insert(0, 'x'));
        Checks.equal("cents of a jammed box", x.getCents(0), 5);
    }

    private static void mostCredits() {
        SelectoRoute x = route();
        for (int i = 0; i < 15; i++) {
            x.insert(0, 's');
        }
        for (int i = 0; i < 4; i++) {
            x.insert(0, 'n');
        }
        Checks.equal("94 credits", x.getCredits(0), 94);
        Checks.fails("100 by a slug", IllegalStateException.class, () -> x.insert(0, 's'));
        Checks.fails("100 by a quarter", IllegalStateException.class, () -> x.insert(0, 'q'));
        Checks.equal("cents as before", x.getCents(0), 20);
        Checks.equal("96 by a dime", x.insert(0, 'd'), 96);
        Checks.equal("98 by a dime", x.insert(0, 'd'), 98);
        Checks.fails("100 by a dime", IllegalStateException.class, () -> x.insert(0, 'd'));
        Checks.equal("99 by a nickel", x.insert(0, 'n'), 99);
        Checks.fails("100 by a nickel", IllegalStateException.class, () -> x.insert(0, 'n'));
        Checks.fails("no coin with 99 credits", IllegalArgumentException.class, () -> x.insert(0, 'z'));
    }

    private static void keys() {
        SelectoRoute x = route();
        x.insert(0, 'q');
        x.insert(0, 'q');
        for (int i = 1; i <= 8; i++) {
            Checks.equal("key", x.press(0, i % 2), i);
            Checks.equal("credits", x.getCredits(0), 12 - i);
            Checks.equal("queued", x.getQueued(0), i);
        }
        Checks.fails("key 9", IllegalStateException.class, () -> x.press(0, 0));
        Checks.equal("credits as before", x.getCredits(0), 4);
        Checks.equal("queued as before", x.getQueued(0), 8);
        Checks.fails("an empty slot with a full queue", UnsupportedOperationException.class, () -> x.press(0, 2));
        x.play(0);
        Checks.equal("room again", x.press(0, 0), 8);
    }

    private static void wrongKeys() {
        SelectoRoute x = route();
        Class<UnsupportedOperationException> not = UnsupportedOperationException.class;
        Checks.fails("no credit", not, () -> x.press(0, 0));
        x.insert(0, 'n');
        Checks.fails("empty slot", not, () -> x.press(0, 2));
        Checks.outOfBounds("slot 10", () -> x.press(0, 10));
        Checks.outOfBounds("slot -1", () -> x.press(0, -1));
        Checks.outOfBounds("box 1", () -> x.press(1, 0));
        Checks.outOfBounds("box -1", () -> x.press(-1, 0));
        Checks.equal("credits as before", x.getCredits(0), 1);
        Checks.equal("the last credit", x.press(0, 0), 1);
        Checks.fails("no credit again", not, () -> x.press(0, 0));
        Checks.outOfBounds("slot 10 without credit", () -> x.press(0, 10));
    }

    private static void queueInOrder() {
        SelectoRoute x = route();
        x.insert(0, 'q');
        x.press(0, 0);
        x.press(0, 1);
        x.press(0, 1);
        x.play(0);
        Checks.equal("first slot 0", x.getWheel(0, 0), 1);
        Checks.equal("not slot 1 yet", x.getWheel(0, 1), 0);
        x.press(0, 0);
        x.play(0);
        x.play(0);
        Checks.equal("then slot 1, twice", x.getWheel(0, 1), 2);
        Checks.equal("not slot 0 yet", x.getWheel(0, 0), 1);
        x.play(0);
        Checks.equal("slot 0 last", x.getWheel(0, 0), 2);
        Checks.equal("nothing left", x.getQueued(0), 0);
    }

    private static void plays() {
        SelectoRoute x = route();
        x.insert(0, 'd');
        x.press(0, 0);
        Checks.equal("it plays", x.play(0), 'p');
        Checks.equal("wheel", x.getWheel(0, 0), 1);
        Checks.equal("wheel of another slot", x.getWheel(0, 1), 0);
        Checks.equal("wear", x.getWear(0), 1);
        Checks.equal("wear of another disc", x.getWear(1), 0);
        Checks.equal("needle", x.getNeedle(0), 1);
        Checks.equal("credits", x.getCredits(0), 1);
        Checks.equal("cents", x.getCents(0), 10);
        Checks.equal("z after a play", x.setSeed(1), 48271);
        Checks.fails("empty queue", NoSuchElementException.class, () -> x.play(0));
        Checks.equal("z stays when nothing is queued", x.setSeed(1), 1);
        Checks.outOfBounds("box 1", () -> x.play(1));
        Checks.outOfBounds("box -1", () -> x.play(-1));
        x.setSeed(2147483646);
        x.press(0, 0);
        x.play(0);
        Checks.equal("z after the greatest z", x.setSeed(1), 2147435376);
    }

    private static void jam() {
        SelectoRoute x = route();
        x.insert(0, 'd');
        x.press(0, 0);
        x.press(0, 1);
        x.setRisk(0, 5);
        x.setSeed(NEXT_IS_5);
        Checks.equal("5 is not less than 5", x.play(0), 'p');
        x.setRisk(0, 6);
        x.setSeed(NEXT_IS_5);
        Checks.equal("5 is less than 6", x.play(0), 'j');
        Checks.holds("it is jammed", x.isJammed(0));
        Checks.equal("z goes on", x.setSeed(1), 854716505);
        Checks.equal("the slot stays", x.getQueued(0), 1);
        Checks.equal("no credit back", x.getCredits(0), 0);
        Checks.equal("no wheel", x.getWheel(0, 1), 0);
        Checks.equal("no needle", x.getNeedle(0), 1);
        Checks.fails("jammed", UnsupportedOperationException.class, () -> x.play(0));
        Checks.equal("z stays while jammed", x.setSeed(1), 1);
        x.pass();
        Checks.holds("still jammed in the next week", x.isJammed(0));
        x.visit(0);
        Checks.holds("freed by a visit", !x.isJammed(0));
        Checks.equal("the slot is still ahead", x.getQueued(0), 1);
        Checks.equal("and plays now", x.play(0), 'p');
        Checks.equal("wheel of the slot ahead", x.getWheel(0, 1), 1);
        jammedWithoutQueue();
    }

    private static void jammedWithoutQueue() {
        SelectoRoute x = route();
        x.insert(0, 'd');
        x.press(0, 0);
        x.setRisk(0, 20);
        x.setSeed(NEXT_IS_5);
        x.play(0);
        Checks.equal("a key of a jammed box", x.press(0, 1), 2);
        Checks.outOfBounds("no box", () -> x.isJammed(1));
        Checks.outOfBounds("no box", () -> x.isJammed(-1));
    }

    private static void emptySlot() {
        SelectoRoute x = route();
        x.insert(0, 'n');
        x.press(0, 0);
        x.change(0, 0, -1);
        Checks.equal("nothing is played", x.play(0), 'b');
        Checks.equal("credit is back", x.getCredits(0), 1);
        Checks.equal("slot is gone", x.getQueued(0), 0);
        Checks.equal("needle", x.getNeedle(0), 0);
        Checks.equal("wheel", x.getWheel(0, 0), 0);
        Checks.equal("z goes on", x.setSeed(1), 48271);
        x.press(0, 1);
        x.change(0, 1, 0);
        Checks.equal("another disc in the slot", x.play(0), 'p');
        Checks.equal("the disc that is there now", x.getWear(0), 1);
        Checks.equal("the disc that was there", x.getWear(1), 0);
    }

    private static void wornDisc() {
        SelectoRoute x = route();
        Routes.wear(x, 0, 0, 59);
        Checks.equal("wear 59", x.getWear(0), 59);
        Checks.equal("credit left", x.getCredits(0), 1);
        x.press(0, 0);
        Checks.equal("59 still plays", x.play(0), 'p');
        Checks.equal("wear 60", x.getWear(0), 60);
        x.insert(0, 'n');
        x.press(0, 0);
        Checks.equal("60 does not", x.play(0), 'b');
        Checks.equal("credit is back", x.getCredits(0), 1);
        Checks.equal("wear stays 60", x.getWear(0), 60);
        Checks.equal("wheel stays 60", x.getWheel(0, 0), 60);
        x.setRisk(0, 6);
        x.setSeed(NEXT_IS_5);
        x.press(0, 0);
        Checks.equal("a jam comes ahead of the wear", x.play(0), 'j');
    }

    private static void creditAbove99() {
        SelectoRoute x = route();
        for (int i = 0; i < 16; i++) {
            x.insert(0, 's');
        }
        for (int i = 0; i < 3; i++) {
            x.insert(0, 'n');
        }
        x.press(0, 0);
        x.press(0, 0);
        x.insert(0, 'd');
        x.change(0, 0, -1);
        x.play(0);
        Checks.equal("100 credits", x.getCredits(0), 100);
        x.play(0);
        Checks.equal("101 credits", x.getCredits(0), 101);
        Checks.fails("a coin above 99", IllegalStateException.class, () -> x.insert(0, 'n'));
        Checks.equal("a key above 99", x.press(0, 1), 1);
    }

    private static void needleWearsDisc() {
        SelectoRoute x = route();
        Routes.wear(x, 0, 0, 30);
        for (int i = 0; i < 10; i++) {
            x.insert(0, 'n');
            x.press(0, 0);
            x.play(0);
        }
        Checks.equal("needle 40", x.getNeedle(0), 40);
        Checks.equal("wear 40", x.getWear(0), 40);
        x.insert(0, 'n');
        x.press(0, 0);
        x.play(0);
        Checks.equal("a needle of 40 wears by 2", x.getWear(0), 42);
        Checks.equal("the needle by 1", x.getNeedle(0), 41);
        Checks.equal("the wheel by 1", x.getWheel(0, 0), 41);
    }

    private static void reading() {
        SelectoRoute x = route();
        x.addBox(0, 0);
        x.insert(1, 'q');
        Checks.equal("credits of box 0", x.getCredits(0), 0);
        Checks.equal("credits of box 1", x.getCredits(1), 6);
        Checks.equal("cents of box 0", x.getCents(0), 0);
        Checks.equal("queued of box 1", x.getQueued(1), 0);
        Checks.outOfBounds("getCredits(2)", () -> x.getCredits(2));
        Checks.outOfBounds("getCredits(-1)", () -> x.getCredits(-1));
        Checks.outOfBounds("getQueued(2)", () -> x.getQueued(2));
        Checks.outOfBounds("getQueued(-1)", () -> x.getQueued(-1));
        Checks.outOfBounds("getCents(2)", () -> x.getCents(2));
        Checks.outOfBounds("getCents(-1)", () -> x.getCents(-1));
        Checks.outOfBounds("getNeedle(2)", () -> x.getNeedle(2));
        Checks.outOfBounds("getNeedle(-1)", () -> x.getNeedle(-1));
        Checks.outOfBounds("getWheel(2, 0)", () -> x.getWheel(2, 0));
        Checks.outOfBounds("getWheel(-1, 0)", () -> x.getWheel(-1, 0));
        Checks.outOfBounds("getWheel(0, 10)", () -> x.getWheel(0, 10));
        Checks.outOfBounds("getWheel(0, -1)", () -> x.getWheel(0, -1));
    }
}
