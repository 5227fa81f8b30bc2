/** Promises 33 and 34: what a change is worth, and the best changes. */
public final class WorthTest {
    public static void main(String[] args) {
        worth();
        wrongWorth();
        worthByTaste();
        best();
        unlikeSlotsAndDiscs();
        nothingToGain();
        wrongBest();
        Checks.finish();
    }

    private static SelectoRoute route(int... strengths) {
        SelectoRoute x = new SelectoRoute();
        for (int strength : strengths) {
            x.addDisc(1, strength, 0);
        }
        x.addBox(0, 9);
        x.visit(0);
        return x;
    }

    private static void worth() {
        SelectoRoute x = route(30, 20, 40);
        x.change(0, 0, 0);
        Checks.equal("more", x.worth(0, 0, 2), 10);
        Checks.equal("less", x.worth(0, 0, 1), -10);
        Checks.equal("an empty slot", x.worth(0, 1, 1), 20);
        Checks.equal("nothing was changed", x.discAt(0, 0), 0);
        x.pass();
        Checks.equal("without a visit in this week", x.worth(0, 0, 2), 10);
        x.visit(0);
        x.change(0, 0, 2);
        Checks.equal("less, and as worn", x.worth(0, 0, 0), -10);
    }

    private static void wrongWorth() {
        SelectoRoute x = route(30, 20, 40);
        x.addBox(0, 0);
        x.change(0, 0, 0);
        x.burn(1);
        Class<UnsupportedOperationException> not = UnsupportedOperationException.class;
        Checks.fails("disc of the slot", not, () -> x.worth(0, 0, 0));
        Checks.fails("disc of another box", not, () -> x.worth(1, 0, 0));
        Checks.fails("burnt disc", not, () -> x.worth(0, 0, 1));
        Checks.outOfBounds("disc 3", () -> x.worth(0, 0, 3));
        Checks.outOfBounds("disc -1", () -> x.worth(0, 0, -1));
        Checks.outOfBounds("slot 10", () -> x.worth(0, 10, 2));
        Checks.outOfBounds("slot -1", () -> x.worth(0, -1, 2));
        Checks.outOfBounds("slot 10, disc of a slot", () -> x.worth(0, 10, 0));
        Checks.outOfBounds("box 2", () -> x.worth(2, 0, 2));
        Checks.outOfBounds("box -1", () -> x.worth(-1, 0, 2));
    }

    private static void worthByTaste() {
        SelectoRoute x = new SelectoRoute();
        x.addDisc(19, 40, 0);
        x.addDisc(28, 50, 0);
        x.addBox(0, 9);
        x.addBox(0, 8);
        x.visit(0);
        x.change(0, 0, 1);
        Checks.equal("taste of the box", x.worth(0, 0, 0), 10);
        Checks.equal("another box, an empty slot", x.worth(1, 0, 0), 40);
        Checks.equal("best of the box", x.bestWorth(0, 1), 60);
        Checks.equal("best of the other", x.bestWorth(1, 1), 40);
    }

    private static void best() {
        SelectoRoute x = route(10, 40, 20, 30, 50);
        Checks.equal("none", x.bestWorth(0, 0), 0);
        Checks.equal("one", x.bestWorth(0, 1), 50);
        Checks.equal("two", x.bestWorth(0, 2), 90);
        Checks.equal("three", x.bestWorth(0, 3), 120);
        x.burn(4);
        Checks.equal("without the burnt one", x.bestWorth(0, 1), 40);
        x.change(0, 0, 1);
        Checks.equal("without the one in a slot", x.bestWorth(0, 2), 50);
        Checks.equal("as many as are there", x.bestWorth(0, 3), 60);
    }

    /** All slots are filled: 1, 2, 3 .. 10; the discs of the van go for the weakest of them. */
    private static void unlikeSlotsAndDiscs() {
        SelectoRoute x = route(10, 9, 8, 7, 6, 5, 4, 3, 2, 1, 12, 3, 11, 2);
        for (int slot = 0; slot < 10; slot++) {
            x.change(0, slot, slot);
        }
        Checks.equal("12 for 1", x.bestWorth(0, 1), 11);
        Checks.equal("and 11 for 2", x.bestWorth(0, 2), 20);
        Checks.equal("but not 3 for 3", x.bestWorth(0, 3), 20);
        x.burn(12);
        Checks.equal("12 for 1, 3 for 2", x.bestWorth(0, 3), 12);
    }

    private static void nothingToGain() {
        SelectoRoute x = route(10, 10, 10, 10, 10, 10, 10, 10, 10, 10);
        Checks.equal("ten discs", x.bestWorth(0, 3), 30);
        for (int slot = 0; slot < 10; slot++) {
            x.change(0, slot, slot);
        }
        Checks.equal("no disc in the van", x.bestWorth(0, 3), 0);
        x.addDisc(1, 10, 0);
        Checks.equal("worth nothing", x.bestWorth(0, 3), 0);
        x.addDisc(1, 9, 0);
        Checks.equal("worth less", x.bestWorth(0, 1), 0);
        x.addDisc(1, 50, 1);
        Checks.equal("ahead of its week", x.bestWorth(0, 1), 0);
        x.addDisc(9, 10, 0);
        Checks.equal("by its taste", x.bestWorth(0, 3), 5);
    }

    private static void wrongBest() {
        SelectoRoute x = route(10);
        Checks.fails("4", IllegalArgumentException.class, () -> x.bestWorth(0, 4));
        Checks.fails("-1", IllegalArgumentException.class, () -> x.bestWorth(0, -1));
        Checks.outOfBounds("box 1", () -> x.bestWorth(1, 1));
        Checks.outOfBounds("box -1, 4", () -> x.bestWorth(-1, 4));
    }
}
