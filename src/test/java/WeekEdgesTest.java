/** The section "Weeks" and promises 20 to 22, at the edges that their sentences name. */
public final class WeekEdgesTest {
    private static final Class<UnsupportedOperationException> NOT = UnsupportedOperationException.class;

    public static void main(String[] args) {
        eighthIsCut();
        pullAsItThenIs();
        aheadOfItsWeekNobodyPlays();
        wearBelowSixty();
        wearGoesBeyondSixty();
        needleAheadOfThat();
        slotAfterSlot();
        eachBoxHasItsNeedle();
        jammedBoxIsLeftOut();
        emptySlotsAreLeftOut();
        guestsLeaveTheKeysAlone();
        lastWeek();
        refusedWeek();
        minutesOfANewWeek();
        noBoxIsVisited();
        Checks.finish();
    }

    /** "an eighth, cut, of its pull" */
    private static void eighthIsCut() {
        int[] strengths = {1, 7, 8, 15, 16, 47, 48, 50};
        int[] times = {0, 0, 1, 1, 2, 5, 6, 6};
        SelectoRoute x = Routes.withBox(9, strengths);
        x.pass();
        int all = 0;
        for (int slot = 0; slot < times.length; slot++) {
            Checks.equal("wheel, pull " + strengths[slot], x.getWheel(0, slot), times[slot]);
            all += times[slot];
        }
        Checks.equal("the needle by as many", x.getNeedle(0), all);
        Checks.equal("5 cents for each time", x.getCents(0), 5 * all);
    }

    /** "of its pull as it then is": ahead of the next week, with the taste, with its wear. */
    private static void pullAsItThenIs() {
        SelectoRoute x = Routes.withBox(1, 16, 11);
        x.pass();
        Checks.equal("16 and 8", x.getWheel(0, 0), 3);
        Checks.equal("11 and 5", x.getWheel(0, 1), 2);
        x.pass();
        Checks.equal("14 and 7", x.getWheel(0, 0), 3 + 2);
        Checks.equal("9 and 4", x.getWheel(0, 1), 2 + 1);
        SelectoRoute y = Routes.withBox(9, 16, 17);
        Routes.wear(y, 0, 0, 10);
        Routes.wear(y, 0, 1, 10);
        y.pass();
        Checks.equal("16 less 1 for its wear", y.getWheel(0, 0), 10 + 1);
        Checks.equal("17 less 1 for its wear", y.getWheel(0, 1), 10 + 2);
    }

    /** "The pull of a disc is 0 ahead of its week": the week that goes by is still ahead of the next one. */
    private static void aheadOfItsWeekNobodyPlays() {
        SelectoRoute x = Routes.withBox(9);
        x.addDisc(1, 40, 1);
        x.change(0, 0, 0);
        x.pass();
        Checks.equal("the week ahead of its own", x.getWheel(0, 0), 0);
        Checks.equal("its own pulls now", x.pull(0), 40);
        x.pass();
        Checks.equal("its own week", x.getWheel(0, 0), 5);
    }

    /** "each disc with a wear below 60" */
    private static void wearBelowSixty() {
        SelectoRoute x = Routes.withBox(9, 50, 50);
        Routes.wear(x, 0, 0, 59);
        Routes.wear(x, 0, 1, 60);
        x.changeNeedle(0);
        int cents = x.getCents(0);
        x.pass();
        Checks.equal("59 plays 45 / 8 times", x.getWheel(0, 0), 59 + 5);
        Checks.equal("60 does not", x.getWheel(0, 1), 60);
        Checks.equal("60 is not worn", x.getWear(1), 60);
        Checks.equal("the needle by the one", x.getNeedle(0), 5);
        Checks.equal("cents by the one", x.getCents(0) - cents, 25);
    }

    /** It plays as often as it is pulled, though it reaches 60 by that; then no more. */
    private static void wearGoesBeyondSixty() {
        SelectoRoute x = Routes.withBox(9, 50);
        Routes.wear(x, 0, 0, 59);
        x.changeNeedle(0);
        x.pass();
        Checks.equal("wear", x.getWear(0), 64);
        x.pass();
        Checks.equal("wear stays", x.getWear(0), 64);
        Checks.equal("the wheel stays", x.getWheel(0, 0), 64);
    }

    /** "1 and a fortieth of the wear of the needle ahead of that, cut" */
    private static void needleAheadOfThat() {
        needle(0, 6);
        needle(34, 6);
        needle(39, 6);
        needle(40, 12);
        needle(45, 12);
    }

    private static void needle(int needle, int due) {
        SelectoRoute x = Routes.withBox(9, 1, 50);
        Routes.play(x, 0, 0, needle);
        x.pass();
        Checks.equal("six times with a needle of " + needle, x.getWear(1), due);
        Checks.equal("the needle by as many", x.getNeedle(0), needle + 6);
        Checks.equal("the wheel by as many", x.getWheel(0, 1), 6);
    }

    /** "slot by slot": each finds the needle that the slots ahead of it leave, 34 and 40, 76 and 82. */
    private static void slotAfterSlot() {
        SelectoRoute x = Routes.withBox(9, 50, 50, 50, 50, 50, 50, 50, 50, 50, 50);
        Routes.play(x, 0, 9, 34);
        Checks.equal("needle", x.getNeedle(0), 34);
        x.pass();
        Checks.equal("slot 0 finds 34", x.getWear(0), 6);
        Checks.equal("slot 1 finds 40", x.getWear(1), 12);
        Checks.equal("slot 7 finds 76", x.getWear(7), 12);
        Checks.equal("slot 8 finds 82", x.getWear(8), 18);
        Checks.equal("slot 9 finds 88, and 47 pull five", x.getWear(9), 34 + 15);
    }

    /** "box by box": the needle of one does not wear the discs of another. */
    private static void eachBoxHasItsNeedle() {
        SelectoRoute x = Routes.withBox(9, 1, 50);
        x.addBox(0, 9);
        x.visit(1);
        x.change(1, 0, x.addDisc(1, 50, 0));
        Routes.play(x, 0, 0, 40);
        x.pass();
        Checks.equal("box 0", x.getWear(1), 12);
        Checks.equal("box 1", x.getWear(2), 6);
        Checks.equal("the needle of box 1", x.getNeedle(1), 6);
    }

    /** "in each box that is not jammed" */
    private static void jammedBoxIsLeftOut() {
        SelectoRoute x = Routes.withBox(9, 40);
        x.addBox(0, 9);
        x.visit(1);
        x.change(1, 0, x.addDisc(1, 40, 0));
        x.insert(0, 'n');
        x.press(0, 0);
        Routes.jam(x, 0);
        x.pass();
        Checks.equal("wheel of the jammed box", x.getWheel(0, 0), 0);
        Checks.equal("wear in the jammed box", x.getWear(0), 0);
        Checks.equal("needle of the jammed box", x.getNeedle(0), 0);
        Checks.equal("cents of the jammed box", x.getCents(0), 5);
        Checks.equal("wheel of the other box", x.getWheel(1, 0), 5);
        x.visit(0);
        x.pass();
        Checks.equal("wheel of the freed box", x.getWheel(0, 0), 4);
    }

    private static void emptySlotsAreLeftOut() {
        SelectoRoute x = Routes.withBox(9);
        x.addDisc(1, 40, 0);
        x.pass();
        for (int slot = 0; slot < 10; slot++) {
            Checks.equal("wheel " + slot, x.getWheel(0, slot), 0);
        }
        Checks.equal("needle", x.getNeedle(0), 0);
        Checks.equal("cents", x.getCents(0), 0);
        Checks.equal("wear in the van", x.getWear(0), 0);
    }

    /** Guests take no credit, leave the queue and z as they are, and never jam the box. */
    private static void guestsLeaveTheKeysAlone() {
        SelectoRoute x = Routes.withBox(9, 40);
        x.setRisk(0, 20);
        x.setSeed(Routes.seedAhead(19));
        x.insert(0, 'd');
        x.press(0, 0);
        x.pass();
        Checks.equal("credits", x.getCredits(0), 1);
        Checks.equal("queue", x.getQueued(0), 1);
        Checks.holds("not jammed", !x.isJammed(0));
        Checks.equal("z", x.setSeed(1), Routes.seedAhead(19));
    }

    /** "if it is the week 99" */
    private static void lastWeek() {
        SelectoRoute x = new SelectoRoute();
        Routes.pass(x, 98);
        Checks.equal("week 98", x.getWeek(), 98);
        Checks.equal("behind week 98", x.pass(), 99);
        Checks.equal("week 99", x.getWeek(), 99);
        Checks.fails("behind week 99", IllegalStateException.class, x::pass);
        Checks.equal("still week 99", x.getWeek(), 99);
        Checks.fails("behind week 99 again", IllegalStateException.class, x::pass);
    }

    /** "A method that throws an exception changes nothing": no guest plays, no minute and no visit comes back. */
    private static void refusedWeek() {
        SelectoRoute x = new SelectoRoute();
        x.addBox(0, 9);
        x.addDisc(1, 50, 99);
        Routes.pass(x, 99);
        x.visit(0);
        x.change(0, 0, 0);
        Checks.fails("behind week 99", IllegalStateException.class, x::pass);
        Checks.equal("wheel", x.getWheel(0, 0), 0);
        Checks.equal("cents", x.getCents(0), 0);
        Checks.equal("minutes", x.getMinutes(), 550);
        Checks.fails("visited in this week", NOT, () -> x.visit(0));
        Checks.equal("pull", x.pull(0), 50);
    }

    /** "with 600 minutes for the van, as it has at first" */
    private static void minutesOfANewWeek() {
        SelectoRoute x = new SelectoRoute();
        Checks.equal("at first", x.getMinutes(), 600);
        x.addBox(0, 0);
        x.pass();
        Checks.equal("none was spent", x.getMinutes(), 600);
        x.visit(0);
        x.change(0, 0, -1);
        x.changeNeedle(0);
        Checks.equal("55 were spent", x.getMinutes(), 545);
        x.pass();
        Checks.equal("none is left out, none is kept", x.getMinutes(), 600);
        x.visit(0);
        Routes.spendTo(x, 0, 0, 0);
        Checks.equal("all were spent", x.getMinutes(), 0);
        x.pass();
        Checks.equal("all are back", x.getMinutes(), 600);
    }

    /** "and no box visited" */
    private static void noBoxIsVisited() {
        SelectoRoute x = new SelectoRoute();
        x.addBox(0, 0);
        Checks.fails("slot, at first", NOT, () -> x.change(0, 0, -1));
        Checks.fails("needle, at first", NOT, () -> x.changeNeedle(0));
        x.visit(0);
        Checks.equal("slot, visited", x.change(0, 0, -1), -1);
        Checks.equal("needle, visited", x.changeNeedle(0), 0);
        x.pass();
        Checks.fails("slot, in the next week", NOT, () -> x.change(0, 0, -1));
        Checks.fails("needle, in the next week", NOT, () -> x.changeNeedle(0));
        Checks.equal("visited again", x.visit(0), 0);
        Checks.equal("slot, visited again", x.change(0, 0, -1), -1);
        Routes.pass(x, 98);
        Checks.equal("visited in week 99", x.visit(0), 0);
        Checks.equal("slot, in week 99", x.change(0, 0, -1), -1);
        Checks.fails("twice in week 99", NOT, () -> x.visit(0));
    }
}
