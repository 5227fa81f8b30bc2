/** What changes are worth, promises 33 and 34, at the edges that the sentences name. */
public final class WorthEdgesTest {
    public static void main(String[] args) {
        moreLikeAndLess();
        slotWithoutADisc();
        discsThatPullNobody();
        pullInThatBox();
        pullAsItIsNow();
        worthAsksForNothing();
        noDiscInTheVan();
        noneToThree();
        fewerDiscsThanMany();
        unlikeSlots();
        unlikeDiscs();
        oneEmptySlot();
        leftOut();
        onlyThoseThatAreWorthSomething();
        weakerDiscForTheWeakestSlot();
        burntDiscsAreNotOfTheVan();
        discsOfOtherBoxesAreNotOfTheVan();
        Checks.finish();
    }

    /** Adds discs of song 1 to the van. */
    private static SelectoRoute van(SelectoRoute x, int... strengths) {
        for (int strength : strengths) {
            x.addDisc(1, strength, 0);
        }
        return x;
    }

    private static void best(String what, SelectoRoute x, int... due) {
        for (int many = 0; many < due.length; many++) {
            Checks.equal(what + ", " + many, x.bestWorth(0, many), due[many]);
        }
    }

    /** "A change is worth as much as the pull in that box is more by it." */
    private static void moreLikeAndLess() {
        SelectoRoute x = van(Routes.withBox(9, 20), 21, 20, 19);
        Checks.equal("more by 1", x.worth(0, 0, 1), 1);
        Checks.equal("as much", x.worth(0, 0, 2), 0);
        Checks.equal("less by 1", x.worth(0, 0, 3), -1);
        best("by 21 for 20, or into an empty slot", x, 0, 21, 41, 60);
    }

    /** "A slot without a disc has the pull 0." */
    private static void slotWithoutADisc() {
        SelectoRoute x = van(Routes.withBox(9), 1, 50);
        for (int slot = 0; slot < 10; slot++) {
            Checks.equal("1 for nothing", x.worth(0, slot, 0), 1);
            Checks.equal("50 for nothing", x.worth(0, slot, 1), 50);
        }
        x.change(0, 3, 1);
        x.change(0, 3, -1);
        Checks.equal("1 for nothing any more", x.worth(0, 3, 0), 1);
    }

    private static void discsThatPullNobody() {
        SelectoRoute x = Routes.withBox(9, 20);
        x.addDisc(1, 50, 1);
        x.addDisc(1, 30, 1);
        Checks.equal("ahead of its week, for 20", x.worth(0, 0, 1), -20);
        Checks.equal("ahead of its week, for nothing", x.worth(0, 1, 1), 0);
        best("all ahead of their week", x, 0, 0, 0, 0);
        x.change(0, 0, 1);
        Checks.equal("20 for one ahead of its week", x.worth(0, 0, 0), 20);
        Checks.equal("one ahead of its week for another", x.worth(0, 0, 2), 0);
        x.pass();
        Checks.equal("18 for 50 in its week", x.worth(0, 0, 0), 18 - 50);
    }

    /** "the pull in that box": by its taste, for the disc that goes as for the one that comes. */
    private static void pullInThatBox() {
        SelectoRoute x = new SelectoRoute();
        x.addBox(0, 1);
        x.addBox(0, 2);
        x.addDisc(1, 20, 0);
        x.addDisc(2, 20, 0);
        x.addDisc(11, 20, 0);
        x.visit(0);
        x.change(0, 0, 0);
        Checks.equal("20 for 20 and a half", x.worth(0, 0, 1), -10);
        Checks.equal("the taste for the taste", x.worth(0, 0, 2), 0);
        Checks.equal("in the other box", x.worth(1, 0, 1), 30);
        Checks.equal("in the other box, not its taste", x.worth(1, 0, 2), 20);
        best("by the taste of box 0", x, 0, 30, 50, 50);
        Checks.equal("by the taste of box 1", x.bestWorth(1, 1), 30);
    }

    /** Weeks and wear count for the disc that is in and for the one of the van. */
    private static void pullAsItIsNow() {
        SelectoRoute x = van(Routes.withBox(9, 20), 20);
        Routes.wear(x, 0, 0, 9);
        Checks.equal("wear 9", x.worth(0, 0, 1), 0);
        Routes.wear(x, 0, 0, 1);
        Checks.equal("wear 10", x.worth(0, 0, 1), 1);
        x.change(0, 0, 1);
        Checks.equal("wear 10 in the van", x.worth(0, 0, 0), -1);
        x.addDisc(1, 20, 2);
        Routes.pass(x, 2);
        Checks.equal("20 for 16", x.worth(0, 0, 2), 4);
    }

    /** Neither a visit nor minutes are asked for what a change would be worth. */
    private static void worthAsksForNothing() {
        SelectoRoute x = van(Routes.withBox(9, 20), 30);
        Routes.spendTo(x, 0, 9, 0);
        Checks.equal("without a minute", x.worth(0, 0, 1), 10);
        best("without a minute", x, 0, 30, 30, 30);
        x.pass();
        Checks.equal("without a visit", x.worth(0, 0, 1), 10);
        best("without a visit", x, 0, 28, 28, 28);
        Checks.equal("nothing was changed", x.discAt(0, 0), 0);
        Checks.equal("no minute was taken", x.getMinutes(), 600);
    }

    private static void noDiscInTheVan() {
        SelectoRoute x = new SelectoRoute();
        x.addBox(0, 0);
        best("no disc at all", x, 0, 0, 0, 0);
        best("all discs in slots", Routes.withBox(9, 20, 30), 0, 0, 0, 0);
    }

    /** "of so many, 0 to 3" */
    private static void noneToThree() {
        best("four discs", van(Routes.withBox(9), 10, 40, 20, 30), 0, 40, 70, 90);
    }

    private static void fewerDiscsThanMany() {
        best("one disc", van(Routes.withBox(9), 7), 0, 7, 7, 7);
        best("two discs", van(Routes.withBox(9), 7, 8), 0, 8, 15, 15);
        best("three discs", van(Routes.withBox(9), 7, 8, 9), 0, 9, 17, 24);
    }

    /** "those of unlike slots": the weakest slot takes one disc alone. */
    private static void unlikeSlots() {
        SelectoRoute x = van(Routes.withBox(9, 40, 40, 40, 40, 10, 40, 40, 40, 40, 40), 50, 45, 41);
        best("one weak slot", x, 0, 40, 45, 46);
    }

    /** "by unlike discs of the van": the strongest disc goes into one slot alone. */
    private static void unlikeDiscs() {
        SelectoRoute x = van(Routes.withBox(9, 10, 10, 10, 10, 10, 10, 10, 10, 10, 10), 50, 12, 11);
        best("one strong disc", x, 0, 40, 42, 43);
    }

    private static void oneEmptySlot() {
        SelectoRoute x = van(Routes.withBox(9, 20, 20, 20, 20, 20, 20, 20, 20, 20), 5, 21);
        best("nine slots of 20", x, 0, 21, 21, 21);
        x.addDisc(1, 22, 0);
        best("22 for nothing, and 21 for 20", x, 0, 22, 23, 23);
    }

    /** "a change that is worth nothing, or less, is left out" */
    private static void leftOut() {
        SelectoRoute x = van(Routes.withBox(9, 20, 20, 20, 20, 20, 20, 20, 20, 20, 20), 19);
        best("worth less by 1", x, 0, 0, 0, 0);
        x.addDisc(1, 20, 0);
        best("worth nothing", x, 0, 0, 0, 0);
        x.addDisc(1, 21, 0);
        best("worth 1", x, 0, 1, 1, 1);
    }

    private static void onlyThoseThatAreWorthSomething() {
        SelectoRoute x = van(Routes.withBox(9, 30, 29, 28, 27, 26, 25, 24, 23, 22, 21), 25, 23, 23);
        best("25 for 21, 23 for 22, not 23 for 23", x, 0, 4, 5, 5);
    }

    /** "whose worth is greatest together": the strongest discs for the weakest slots. */
    private static void weakerDiscForTheWeakestSlot() {
        SelectoRoute x = van(Routes.withBox(9, 49, 49, 49, 49, 49, 49, 49, 49, 49, 48), 50, 49, 1);
        best("full", x, 0, 2, 2, 2);
        x.change(0, 0, -1);
        best("one slot empty", x, 0, 50, 51, 51);
        x.change(0, 1, -1);
        best("two slots empty", x, 0, 50, 99, 100);
        x.change(0, 2, -1);
        best("three slots empty", x, 0, 50, 99, 148);
    }

    private static void burntDiscsAreNotOfTheVan() {
        SelectoRoute x = van(Routes.withBox(9), 50, 40, 30);
        x.burn(0);
        best("without the strongest", x, 0, 40, 70, 70);
        x.burn(2);
        best("one is left", x, 0, 40, 40, 40);
        x.burn(1);
        best("none is left", x, 0, 0, 0, 0);
    }

    private static void discsOfOtherBoxesAreNotOfTheVan() {
        SelectoRoute x = van(Routes.withBox(9), 50, 40);
        x.addBox(0, 9);
        x.visit(1);
        x.change(1, 0, 0);
        best("the strongest is in another box", x, 0, 40, 40, 40);
        x.change(1, 0, -1);
        best("it is back", x, 0, 50, 90, 90);
    }
}
