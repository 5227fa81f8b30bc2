import java.util.NoSuchElementException;

/** The section "Discs and boxes" and promises 1 to 5 and 15 to 19, at the edges that their sentences name. */
public final class DiscEdgesTest {
    public static void main(String[] args) {
        newObject();
        newDisc();
        newBox();
        mostDiscs();
        burntDiscsKeepTheirNumbers();
        mostBoxes();
        slotsAreEmptyAtFirst();
        riskIsZeroAtFirst();
        seedIsOneAtFirst();
        aheadOfItsWeek();
        aheadOfTheLastWeek();
        twiceTheWeeks();
        fifthIsCut();
        fifthOfLessThanFive();
        lastDigitIsTheTaste();
        halfIsCut();
        halfOfTheFifth();
        tenthOfTheWear();
        tenthIsTakenOffLast();
        pullIsZeroAtLeast();
        tasteIsOfTheBoxAlone();
        places();
        Checks.finish();
    }

    /** "Creates a route without discs and boxes, in the week 0." */
    private static void newObject() {
        SelectoRoute x = new SelectoRoute();
        Checks.equal("the week", x.getWeek(), 0);
        Checks.outOfBounds("no disc", () -> x.getPlace(0));
        Checks.outOfBounds("no box", () -> x.getCredits(0));
        Checks.equal("the first disc", x.addDisc(0, 1, 0), 0);
        Checks.equal("the first box", x.addBox(0, 0), 0);
        Checks.equal("another object is without them", new SelectoRoute().addDisc(0, 1, 0), 0);
    }

    /** "Buys a disc, which lies in the van then." */
    private static void newDisc() {
        SelectoRoute x = new SelectoRoute();
        x.addDisc(99, 50, 99);
        Checks.equal("place", x.getPlace(0), -1);
        Checks.equal("wear", x.getWear(0), 0);
        Checks.equal("pull", x.pull(0), 0);
    }

    /** A box begins with nothing, also a later one beside one that has something. */
    private static void newBox() {
        SelectoRoute x = Routes.withBox(1, 40);
        x.insert(0, 'q');
        x.press(0, 0);
        x.ask(0, 5);
        x.pass();
        x.visit(0);
        x.addBox(60, 9);
        Checks.equal("credits", x.getCredits(1), 0);
        Checks.equal("queued", x.getQueued(1), 0);
        Checks.equal("cents", x.getCents(1), 0);
        Checks.equal("needle", x.getNeedle(1), 0);
        Checks.equal("short", x.getShort(1), 0);
        Checks.equal("share", x.getShare(1), 0);
        Checks.equal("wheel", x.getWheel(1, 0), 0);
        Checks.holds("not jammed", !x.isJammed(1));
        Checks.fails("no disc", NoSuchElementException.class, () -> x.discAt(1, 0));
        Checks.fails("no song", NoSuchElementException.class, () -> x.mostAsked(1));
        Checks.fails("not visited", UnsupportedOperationException.class, () -> x.changeNeedle(1));
    }

    /** "At most 30 discs are numbered from 0" */
    private static void mostDiscs() {
        SelectoRoute x = new SelectoRoute();
        for (int disc = 0; disc < 29; disc++) {
            x.addDisc(disc, 20, 0);
        }
        Checks.equal("the 30th", x.addDisc(99, 50, 99), 29);
        Checks.fails("the 31st", IllegalStateException.class, () -> x.addDisc(0, 1, 0));
        Checks.equal("the 30th is there", x.getPlace(29), -1);
        Checks.outOfBounds("the 31st is not", () -> x.getPlace(30));
    }

    /** "if there were 30": those that are burnt were, too. */
    private static void burntDiscsKeepTheirNumbers() {
        SelectoRoute x = new SelectoRoute();
        x.addDisc(0, 20, 0);
        x.burn(0);
        for (int disc = 1; disc < 30; disc++) {
            Checks.equal("a disc behind the burnt one", x.addDisc(disc, 20, 0), disc);
            x.burn(disc);
        }
        Checks.fails("the 31st", IllegalStateException.class, () -> x.addDisc(0, 1, 0));
    }

    /** "At most 4 boxes are numbered from 0" */
    private static void mostBoxes() {
        SelectoRoute x = new SelectoRoute();
        for (int box = 0; box < 4; box++) {
            Checks.equal("a box", x.addBox(0, 0), box);
        }
        Checks.fails("the fifth", IllegalStateException.class, () -> x.addBox(0, 0));
        Checks.equal("the fourth is there", x.getCredits(3), 0);
        Checks.outOfBounds("the fifth is not", () -> x.getCredits(4));
    }

    /** "each with the slots 0 to 9, empty at first" */
    private static void slotsAreEmptyAtFirst() {
        SelectoRoute x = new SelectoRoute();
        x.addDisc(0, 20, 0);
        x.addBox(0, 0);
        for (int slot = 0; slot < 10; slot++) {
            int there = slot;
            Checks.fails("slot " + slot, NoSuchElementException.class, () -> x.discAt(0, there));
            Checks.equal("wheel " + slot, x.getWheel(0, slot), 0);
        }
        x.visit(0);
        x.change(0, 9, 0);
        Checks.equal("the last slot with a disc", x.discAt(0, 9), 0);
        Checks.fails("the slot beside it", NoSuchElementException.class, () -> x.discAt(0, 8));
        x.change(0, 9, -1);
        Checks.fails("the last slot, empty again", NoSuchElementException.class, () -> x.discAt(0, 9));
    }

    /** "the risk of the box, 0 to 20, 0 at first" */
    private static void riskIsZeroAtFirst() {
        SelectoRoute x = new SelectoRoute();
        x.addBox(0, 0);
        x.addBox(0, 0);
        Checks.equal("at first", x.setRisk(1, 20), 0);
        Checks.equal("the greatest before", x.setRisk(1, 0), 20);
        Checks.equal("the least before", x.setRisk(1, 1), 0);
        Checks.equal("the other box", x.setRisk(0, 0), 0);
    }

    /** "z, 1 at first" */
    private static void seedIsOneAtFirst() {
        SelectoRoute x = new SelectoRoute();
        Checks.equal("at first", x.setSeed(2147483646), 1);
        Checks.equal("the greatest before", x.setSeed(1), 2147483646);
        Checks.equal("the least before", x.setSeed(2), 1);
    }

    /** "The pull of a disc is 0 ahead of its week": in the van, for a box, and in a box of its taste. */
    private static void aheadOfItsWeek() {
        SelectoRoute x = Routes.withBox(1);
        x.addDisc(1, 40, 2);
        x.addDisc(1, 40, 2);
        x.change(0, 0, 0);
        x.pass();
        Checks.equal("a week ahead, in a box", x.pull(0), 0);
        Checks.equal("a week ahead, in the van", x.pull(1), 0);
        Checks.equal("a week ahead, for a box", x.pullIn(0, 1), 0);
        x.pass();
        Checks.equal("in its week, in a box", x.pull(0), 60);
        Checks.equal("in its week, in the van", x.pull(1), 40);
        Checks.equal("in its week, for a box", x.pullIn(0, 1), 60);
        x.pass();
        Checks.equal("a week later, in the van", x.pull(1), 38);
    }

    /** The week from which a disc is out is "0 to 99": it is out in the last one. */
    private static void aheadOfTheLastWeek() {
        SelectoRoute x = new SelectoRoute();
        x.addDisc(1, 50, 99);
        x.addDisc(1, 50, 98);
        Routes.pass(x, 97);
        Checks.equal("out from 98, in 97", x.pull(1), 0);
        x.pass();
        Checks.equal("out from 99, in 98", x.pull(0), 0);
        Checks.equal("out from 98, in 98", x.pull(1), 50);
        x.pass();
        Checks.equal("out from 99, in 99", x.pull(0), 50);
        Checks.equal("out from 98, in 99", x.pull(1), 48);
    }

    /** "its strength less twice the weeks since then, a fifth of its strength, cut, at least" */
    private static void twiceTheWeeks() {
        SelectoRoute x = new SelectoRoute();
        x.addDisc(1, 50, 0);
        Checks.equal("no week since then", x.pull(0), 50);
        Routes.pass(x, 19);
        Checks.equal("above a fifth", x.pull(0), 12);
        x.pass();
        Checks.equal("just a fifth", x.pull(0), 10);
        x.pass();
        Checks.equal("not below a fifth", x.pull(0), 10);
        Routes.pass(x, 78);
        Checks.equal("in the week 99", x.pull(0), 10);
    }

    private static void fifthIsCut() {
        SelectoRoute x = new SelectoRoute();
        x.addDisc(1, 9, 0);
        x.addDisc(1, 10, 0);
        x.addDisc(1, 49, 0);
        Routes.pass(x, 25);
        Checks.equal("of 9", x.pull(0), 1);
        Checks.equal("of 10", x.pull(1), 2);
        Checks.equal("of 49", x.pull(2), 9);
    }

    private static void fifthOfLessThanFive() {
        SelectoRoute x = new SelectoRoute();
        x.addDisc(1, 4, 0);
        x.addDisc(1, 5, 0);
        x.pass();
        Checks.equal("4 less 2", x.pull(0), 2);
        Checks.equal("5 less 2", x.pull(1), 3);
        x.pass();
        Checks.equal("4 less 4", x.pull(0), 0);
        Checks.equal("5 less 4, which is its fifth", x.pull(1), 1);
        x.pass();
        Checks.equal("4 less 6 is not below 0", x.pull(0), 0);
        Checks.equal("5 less 6 is not below 1", x.pull(1), 1);
    }

    /** "is added if the last digit of the song is the taste" */
    private static void lastDigitIsTheTaste() {
        int[] songs = {0, 9, 10, 19, 90, 99};
        int[] pullsForTaste0 = {30, 20, 30, 20, 30, 20};
        int[] pullsForTaste9 = {20, 30, 20, 30, 20, 30};
        SelectoRoute x = new SelectoRoute();
        x.addBox(0, 0);
        x.addBox(0, 9);
        for (int i = 0; i < songs.length; i++) {
            int disc = x.addDisc(songs[i], 20, 0);
            Checks.equal("taste 0, song " + songs[i], x.pullIn(0, disc), pullsForTaste0[i]);
            Checks.equal("taste 9, song " + songs[i], x.pullIn(1, disc), pullsForTaste9[i]);
        }
    }

    /** "half of that, cut, is added" */
    private static void halfIsCut() {
        int[] strengths = {1, 2, 3, 4, 49, 50};
        int[] pulls = {1, 3, 4, 6, 73, 75};
        SelectoRoute x = Routes.withBox(1, strengths);
        for (int disc = 0; disc < pulls.length; disc++) {
            Checks.equal("strength " + strengths[disc], x.pull(disc), pulls[disc]);
        }
    }

    private static void halfOfTheFifth() {
        SelectoRoute x = Routes.withBox(1);
        Routes.pass(x, 6);
        Checks.equal("3 and the half of it", x.pullIn(0, x.addDisc(1, 15, 0)), 4);
        Routes.pass(x, 30);
        Checks.equal("10 and the half of it", x.pullIn(0, x.addDisc(1, 50, 0)), 15);
    }

    /** "then a tenth of its wear, cut, is taken off" */
    private static void tenthOfTheWear() {
        SelectoRoute x = Routes.withBox(9, 50);
        Routes.wear(x, 0, 0, 9);
        Checks.equal("wear 9", x.pull(0), 50);
        Routes.wear(x, 0, 0, 1);
        Checks.equal("wear 10", x.pull(0), 49);
        Routes.wear(x, 0, 0, 9);
        Checks.equal("wear 19", x.pull(0), 49);
        Routes.wear(x, 0, 0, 1);
        Checks.equal("wear 20", x.pull(0), 48);
        x.change(0, 0, -1);
        Checks.equal("wear 20, in the van", x.pull(0), 48);
        Checks.equal("wear 20, for a box", x.pullIn(0, 0), 48);
    }

    /** Behind the half, not ahead of it: 50 and 25 less 1, not 49 and 24. */
    private static void tenthIsTakenOffLast() {
        SelectoRoute x = Routes.withBox(1, 50);
        Routes.wear(x, 0, 0, 10);
        Checks.equal("in a box", x.pull(0), 74);
        x.change(0, 0, -1);
        Checks.equal("for a box", x.pullIn(0, 0), 74);
        Routes.pass(x, 99);
        Checks.equal("a fifth, the half of it, less 1", x.pullIn(0, 0), 14);
        Checks.equal("a fifth less 1", x.pull(0), 9);
    }

    /** "0 at least" */
    private static void pullIsZeroAtLeast() {
        SelectoRoute x = Routes.withBox(9, 1);
        Routes.wear(x, 0, 0, 9);
        Checks.equal("1 less 0", x.pull(0), 1);
        Routes.wear(x, 0, 0, 1);
        Checks.equal("1 less 1", x.pull(0), 0);
        Routes.wear(x, 0, 0, 10);
        Checks.equal("1 less 2", x.pull(0), 0);
        x.change(0, 0, -1);
        Checks.equal("1 less 2, in the van", x.pull(0), 0);
        Checks.equal("1 less 2, for a box", x.pullIn(0, 0), 0);
    }

    /** "in a box, half of that .. is added": not in the van, and not by the taste of another box. */
    private static void tasteIsOfTheBoxAlone() {
        SelectoRoute x = Routes.withBox(1, 40);
        x.addBox(0, 0);
        Checks.equal("in its box", x.pull(0), 60);
        Checks.equal("for the other box, while it is in this", x.pullIn(1, 0), 40);
        x.change(0, 0, -1);
        Checks.equal("in the van", x.pull(0), 40);
        Checks.equal("for a box, while it is in the van", x.pullIn(0, 0), 60);
        x.burn(0);
        Checks.equal("burnt", x.pull(0), 0);
        Checks.equal("burnt, for a box of its taste", x.pullIn(0, 0), 0);
    }

    /** "10 times the box and the slot, -1 in the van, -2 burnt" */
    private static void places() {
        SelectoRoute x = new SelectoRoute();
        for (int box = 0; box < 4; box++) {
            x.addBox(0, 0);
            x.addDisc(1, 20, 0);
            x.visit(box);
        }
        x.change(0, 0, 0);
        x.change(0, 9, 1);
        x.change(1, 0, 2);
        x.change(3, 9, 3);
        Checks.equal("the first slot", x.getPlace(0), 0);
        Checks.equal("the last slot of the first box", x.getPlace(1), 9);
        Checks.equal("the first slot of the second box", x.getPlace(2), 10);
        Checks.equal("the last slot of the last box", x.getPlace(3), 39);
        x.change(0, 0, -1);
        Checks.equal("in the van", x.getPlace(0), -1);
        x.burn(0);
        Checks.equal("burnt", x.getPlace(0), -2);
    }
}
