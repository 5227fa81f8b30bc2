import java.util.NoSuchElementException;

/** The section "Coins and keys" and promises 6 to 14, at the edges that their sentences name. */
public final class CoinEdgesTest {
    private static final Class<UnsupportedOperationException> NOT = UnsupportedOperationException.class;
    private static final Class<IllegalStateException> FULL = IllegalStateException.class;

    public static void main(String[] args) {
        coinsAndTheirNeighbours();
        mostCreditsByANickel();
        mostCreditsByADime();
        mostCreditsByAQuarter();
        mostCreditsByASlug();
        coinsIntoAJammedBox();
        lastCredit();
        emptySlotsKey();
        queueHoldsEight();
        emptyQueue();
        seedsWrapAround();
        risks();
        remainderOfAHundred();
        jammedSlotStaysAhead();
        jammedQueueStaysFull();
        slotEmptiedInTheQueue();
        wearOfSixty();
        wearBeyondSixty();
        creditAbove99();
        fortiethOfTheNeedle();
        discAheadOfItsWeekPlays();
        Checks.finish();
    }

    /** "n, d, q or s" */
    private static void coinsAndTheirNeighbours() {
        SelectoRoute x = Routes.withBox(9, 40);
        char[] none = {'m', 'o', 'c', 'e', 'p', 'r', 't', 'N', 'D', 'Q', 'S', ' ', 0, 127, 255, 65535};
        for (char coin : none) {
            Checks.fails("sign " + (int) coin, IllegalArgumentException.class, () -> x.insert(0, coin));
        }
        for (char coin : new char[] {'n', 'd', 'q', 's'}) {
            char far = (char) (coin + 256);
            Checks.fails("sign " + (int) far, IllegalArgumentException.class, () -> x.insert(0, far));
            Checks.answers("coin " + coin, () -> x.insert(0, coin));
        }
        Checks.equal("credits of one coin each", x.getCredits(0), 15);
        Checks.equal("cents of one coin each", x.getCents(0), 40);
    }

    /** "if there would be more than 99": just 99 is well. */
    private static void mostCredits(char coin, int credits, int cents) {
        SelectoRoute x = Routes.withBox(9, 40);
        Routes.fillCredits(x, 0, 99 - credits);
        int before = x.getCents(0);
        Checks.equal("99 by " + coin, x.insert(0, coin), 99);
        Checks.equal("cents of " + coin, x.getCents(0) - before, cents);
        SelectoRoute y = Routes.withBox(9, 40);
        Routes.fillCredits(y, 0, 100 - credits);
        int refused = y.getCents(0);
        Checks.fails("100 by " + coin, FULL, () -> y.insert(0, coin));
        Checks.equal("credits as before", y.getCredits(0), 100 - credits);
        Checks.equal("cents as before", y.getCents(0), refused);
    }

    private static void mostCreditsByANickel() {
        mostCredits('n', 1, 5);
    }

    private static void mostCreditsByADime() {
        mostCredits('d', 2, 10);
    }

    private static void mostCreditsByAQuarter() {
        mostCredits('q', 6, 25);
    }

    private static void mostCreditsByASlug() {
        mostCredits('s', 6, 0);
    }

    /** "if it is jammed": the other box takes its coins, and this one, too, once it is freed. */
    private static void coinsIntoAJammedBox() {
        SelectoRoute x = Routes.withBox(9, 40);
        x.addBox(0, 9);
        x.insert(0, 'n');
        x.press(0, 0);
        Routes.jam(x, 0);
        for (char coin : new char[] {'n', 'd', 'q', 's'}) {
            Checks.fails(coin + " into the jammed box", NOT, () -> x.insert(0, coin));
        }
        Checks.equal("into the other box", x.insert(1, 'n'), 1);
        Checks.holds("the other box is not jammed", !x.isJammed(1));
        x.pass();
        Checks.fails("a week later", NOT, () -> x.insert(0, 'n'));
        x.visit(0);
        Checks.equal("into the freed box", x.insert(0, 'n'), 1);
    }

    /** "if there is no credit" */
    private static void lastCredit() {
        SelectoRoute x = Routes.withBox(9, 40);
        Checks.fails("no credit at first", NOT, () -> x.press(0, 0));
        x.insert(0, 'n');
        Checks.equal("the one credit", x.press(0, 0), 1);
        Checks.equal("no credit left", x.getCredits(0), 0);
        Checks.fails("no credit", NOT, () -> x.press(0, 0));
        Checks.equal("one in the queue", x.getQueued(0), 1);
    }

    /** "or the slot is empty": each that has no disc, also one that had. */
    private static void emptySlotsKey() {
        SelectoRoute x = Routes.withBox(9, 40);
        x.insert(0, 'q');
        for (int slot = 1; slot < 10; slot++) {
            int key = slot;
            Checks.fails("key " + slot, NOT, () -> x.press(0, key));
        }
        Checks.equal("the slot with a disc", x.press(0, 0), 1);
        x.change(0, 0, -1);
        Checks.fails("the slot that had a disc", NOT, () -> x.press(0, 0));
        Checks.equal("credits", x.getCredits(0), 5);
    }

    /** "the queue of the box, which holds 8" */
    private static void queueHoldsEight() {
        SelectoRoute x = Routes.withBox(9, 40);
        Routes.fillCredits(x, 0, 20);
        for (int i = 1; i <= 7; i++) {
            x.press(0, 0);
        }
        Checks.equal("the eighth", x.press(0, 0), 8);
        Checks.fails("the ninth", FULL, () -> x.press(0, 0));
        Checks.equal("eight are in", x.getQueued(0), 8);
        Checks.equal("no credit is taken for the ninth", x.getCredits(0), 12);
        x.play(0);
        Checks.equal("seven are in", x.getQueued(0), 7);
        Checks.equal("the eighth again", x.press(0, 0), 8);
        Checks.fails("the ninth again", FULL, () -> x.press(0, 0));
    }

    /** "if the queue is empty" */
    private static void emptyQueue() {
        SelectoRoute x = Routes.withBox(9, 40);
        Checks.fails("at first", NoSuchElementException.class, () -> x.play(0));
        x.insert(0, 'n');
        Checks.fails("with a credit alone", NoSuchElementException.class, () -> x.play(0));
        x.press(0, 0);
        Checks.equal("with one in it", x.play(0), 'p');
        Checks.fails("empty again", NoSuchElementException.class, () -> x.play(0));
        Checks.equal("z went on once", x.setSeed(1), 48271);
    }

    /** "z .. becomes z times 48271 modulo 2147483647", beyond what an int holds, too. */
    private static void seedsWrapAround() {
        int[] before = {1, 44488, 44489, 2147483646, Routes.seedAhead(1), Routes.seedAhead(2147483646)};
        int[] then = {48271, 2147480248, 44872, 2147435376, 1, 2147483646};
        SelectoRoute x = Routes.withBox(9, 40);
        for (int i = 0; i < before.length; i++) {
            x.setSeed(before[i]);
            Routes.play(x, 0, 0, 1);
            Checks.equal("z behind " + before[i], x.setSeed(1), then[i]);
        }
    }

    /** "if z modulo 100 is less than the risk of the box" */
    private static void risks() {
        risk(0, 100, 'p');
        risk(0, 199, 'p');
        risk(1, 100, 'j');
        risk(1, 101, 'p');
        risk(10, 109, 'j');
        risk(10, 110, 'p');
        risk(20, 119, 'j');
        risk(20, 120, 'p');
        risk(20, 199, 'p');
        risk(20, 200, 'j');
    }

    private static void risk(int risk, int z, char due) {
        SelectoRoute x = Routes.withBox(9, 40);
        x.insert(0, 'n');
        x.press(0, 0);
        x.setRisk(0, risk);
        x.setSeed(Routes.seedAhead(z));
        Checks.equal("risk " + risk + ", z " + z, x.play(0), due);
        Checks.holds("jammed or not", x.isJammed(0) == (due == 'j'));
        Checks.equal("in the queue", x.getQueued(0), due == 'j' ? 1 : 0);
        Checks.equal("z", x.setSeed(1), z);
    }

    /** Remainders by 99, 101 and 10 would jam where those by 100 do not. */
    private static void remainderOfAHundred() {
        risk(20, 99, 'p');
        risk(20, 990, 'p');
        risk(20, 1010, 'j');
        risk(20, 1020, 'p');
        risk(20, 2147483646, 'p');
        risk(20, 2147483619, 'j');
        risk(20, 2147483620, 'p');
    }

    /** "it is jammed, and the slot stays ahead in the queue" */
    private static void jammedSlotStaysAhead() {
        SelectoRoute x = Routes.withBox(9, 40, 40);
        x.insert(0, 'd');
        x.press(0, 1);
        x.press(0, 0);
        Routes.jam(x, 0);
        Checks.equal("both are in the queue", x.getQueued(0), 2);
        Checks.equal("no credit is back", x.getCredits(0), 0);
        Checks.fails("jammed", NOT, () -> x.play(0));
        x.setRisk(0, 0);
        Checks.fails("jammed, without a risk", NOT, () -> x.play(0));
        x.pass();
        x.visit(0);
        Checks.equal("it plays", x.play(0), 'p');
        Checks.equal("slot 1 first", x.getWheel(0, 1), 1);
        Checks.equal("slot 0 not yet", x.getWheel(0, 0), 0);
    }

    private static void jammedQueueStaysFull() {
        SelectoRoute x = Routes.withBox(9, 40);
        Routes.fillCredits(x, 0, 20);
        for (int i = 0; i < 7; i++) {
            x.press(0, 0);
        }
        Routes.jam(x, 0);
        Checks.equal("the eighth, while it is jammed", x.press(0, 0), 8);
        Checks.fails("the ninth, while it is jammed", FULL, () -> x.press(0, 0));
        Checks.equal("eight are in", x.getQueued(0), 8);
    }

    /** "if the slot is empty .. nothing is played, and the credit is given back" */
    private static void slotEmptiedInTheQueue() {
        SelectoRoute x = Routes.withBox(9, 40, 30);
        Routes.fillCredits(x, 0, 3);
        x.press(0, 0);
        x.press(0, 0);
        x.change(0, 0, -1);
        Checks.equal("empty", x.play(0), 'b');
        Checks.equal("its credit is back", x.getCredits(0), 2);
        Checks.equal("no needle", x.getNeedle(0), 0);
        Checks.equal("no wheel", x.getWheel(0, 0), 0);
        x.change(0, 0, 0);
        Checks.equal("with a disc again", x.play(0), 'p');
        Checks.equal("its credit is not back", x.getCredits(0), 2);
        Checks.equal("the wheel", x.getWheel(0, 0), 1);
    }

    /** "or its disc has a wear of 60 or more" */
    private static void wearOfSixty() {
        SelectoRoute x = Routes.withBox(9, 40);
        Routes.wear(x, 0, 0, 59);
        Checks.equal("wear", x.getWear(0), 59);
        x.press(0, 0);
        Checks.equal("59 plays", x.play(0), 'p');
        Checks.equal("wear", x.getWear(0), 60);
        x.insert(0, 'n');
        x.press(0, 0);
        Checks.equal("60 does not", x.play(0), 'b');
        Checks.equal("its credit is back", x.getCredits(0), 1);
        Checks.equal("wear stays", x.getWear(0), 60);
        Checks.equal("the wheel stays", x.getWheel(0, 0), 60);
        Checks.equal("the slot is out of the queue", x.getQueued(0), 0);
        Checks.equal("a key of it can be pressed all the same", x.press(0, 0), 1);
    }

    private static void wearBeyondSixty() {
        SelectoRoute x = Routes.withBox(9, 40, 40);
        Routes.wear(x, 0, 0, 59);
        x.changeNeedle(0);
        Routes.play(x, 0, 1, 40);
        Routes.play(x, 0, 0, 1);
        Checks.equal("wear", x.getWear(0), 61);
        x.insert(0, 'n');
        x.press(0, 0);
        Checks.equal("61 does not play", x.play(0), 'b');
        Checks.equal("wear stays", x.getWear(0), 61);
    }

    /** "the credit is given back, above 99, too" */
    private static void creditAbove99() {
        SelectoRoute x = Routes.withBox(9, 40, 40);
        Routes.fillCredits(x, 0, 99);
        for (int i = 0; i < 8; i++) {
            x.press(0, 0);
        }
        x.insert(0, 's');
        x.insert(0, 'd');
        x.change(0, 0, -1);
        for (int credits = 100; credits <= 107; credits++) {
            Checks.equal("nothing is played", x.play(0), 'b');
            Checks.equal("credits", x.getCredits(0), credits);
        }
        Checks.fails("a coin above 99", FULL, () -> x.insert(0, 'n'));
        Checks.equal("a key takes one", x.press(0, 1), 1);
        Checks.equal("credits", x.getCredits(0), 106);
    }

    /** "the disc is worn by 1 and a fortieth of the wear of the needle, cut, and the needle by 1" */
    private static void fortiethOfTheNeedle() {
        SelectoRoute x = Routes.withBox(9, 50, 50, 50, 50, 50, 50, 50, 50, 50, 50);
        Routes.play(x, 0, 0, 39);
        wornBy(x, 39, 1);
        wornBy(x, 40, 2);
        x.changeNeedle(0);
        x.pass();
        x.visit(0);
        Checks.equal("five guests at slot 0, six at each of the others", x.getNeedle(0), 59);
        Routes.play(x, 0, 9, 79 - 59);
        wornBy(x, 79, 2);
        wornBy(x, 80, 3);
    }

    /** Slot 1 plays once, with this wear of the needle. */
    private static void wornBy(SelectoRoute x, int needle, int due) {
        Checks.equal("needle", x.getNeedle(0), needle);
        int before = x.getWear(1);
        int wheel = x.getWheel(0, 1);
        Routes.play(x, 0, 1, 1);
        Checks.equal("a needle of " + needle, x.getWear(1) - before, due);
        Checks.equal("the needle by 1", x.getNeedle(0), needle + 1);
        Checks.equal("the wheel by 1", x.getWheel(0, 1), wheel + 1);
    }

    /** No sentence keeps a disc that pulls nobody from playing for a key. */
    private static void discAheadOfItsWeekPlays() {
        SelectoRoute x = Routes.withBox(9);
        x.addDisc(1, 40, 99);
        x.change(0, 0, 0);
        Routes.play(x, 0, 0, 1);
        Checks.equal("the wheel", x.getWheel(0, 0), 1);
        Checks.equal("wear", x.getWear(0), 1);
        Checks.equal("pull", x.pull(0), 0);
    }
}
