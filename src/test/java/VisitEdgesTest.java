/** The section "Visits" and promises 23 to 29, at the edges that their sentences name. */
public final class VisitEdgesTest {
    private static final Class<UnsupportedOperationException> NOT = UnsupportedOperationException.class;

    public static void main(String[] args) {
        minutesForAVisit();
        minutesForAChange();
        minutesForANeedle();
        twiceInAWeek();
        eachBoxIsVisitedByItself();
        emptyBox();
        freed();
        shareIsCut();
        sharesAreCutApart();
        shortWithoutAVisit();
        shortMoreAndLess();
        shortSinceTheVisitAhead();
        shortOfPlaysInAJammedWeek();
        shortOfChangedSlots();
        discsOfTheVanAlone();
        discThatWasThere();
        wheelAtZero();
        otherWheelsStay();
        needleAtZero();
        burningInTheVanAlone();
        Checks.finish();
    }

    /** Box 0 was visited, box 1 was not; the van has so many minutes left. */
    private static SelectoRoute left(int minutes) {
        SelectoRoute x = Routes.withBox(9);
        x.addBox(0, 9);
        x.addDisc(1, 40, 0);
        Routes.spendTo(x, 0, 9, minutes);
        Checks.equal("minutes left", x.getMinutes(), minutes);
        return x;
    }

    /** "A visit takes 40 minutes", refused if "there are not as many minutes left" */
    private static void minutesForAVisit() {
        SelectoRoute x = left(40);
        Checks.equal("40 are enough", x.visit(1), 0);
        Checks.equal("none is left", x.getMinutes(), 0);
        SelectoRoute y = left(45);
        Checks.equal("45 are enough", y.visit(1), 0);
        Checks.equal("5 are left", y.getMinutes(), 5);
        SelectoRoute z = left(35);
        Checks.fails("35 are too few", NOT, () -> z.visit(1));
        Checks.equal("35 are left", z.getMinutes(), 35);
        SelectoRoute none = left(0);
        Checks.fails("0 are too few", NOT, () -> none.visit(1));
        none.pass();
        Checks.equal("a week later", none.visit(1), 0);
    }

    /** "a slot can be changed, in 10 minutes" */
    private static void minutesForAChange() {
        SelectoRoute x = left(10);
        Checks.equal("10 are enough", x.change(0, 0, 0), -1);
        Checks.equal("none is left", x.getMinutes(), 0);
        Checks.fails("0 are too few", NOT, () -> x.change(0, 0, -1));
        Checks.equal("the disc stays", x.getPlace(0), 0);
        SelectoRoute y = left(5);
        Checks.fails("5 are too few", NOT, () -> y.change(0, 0, 0));
        Checks.fails("5 are too few for none", NOT, () -> y.change(0, 0, -1));
        Checks.equal("5 are left", y.getMinutes(), 5);
        Checks.equal("the disc stays in the van", y.getPlace(0), -1);
    }

    /** "and the needle, in 5" */
    private static void minutesForANeedle() {
        SelectoRoute x = left(5);
        Checks.equal("5 are enough", x.changeNeedle(0), 0);
        Checks.equal("none is left", x.getMinutes(), 0);
        Checks.fails("0 are too few", NOT, () -> x.changeNeedle(0));
        SelectoRoute y = left(10);
        Checks.equal("10 are enough", y.changeNeedle(0), 0);
        Checks.equal("5 are left", y.getMinutes(), 5);
    }

    /** "if it was visited in this week" */
    private static void twiceInAWeek() {
        SelectoRoute x = Routes.withBox(9);
        Checks.fails("twice", NOT, () -> x.visit(0));
        Checks.equal("40 minutes, once", x.getMinutes(), 560);
        x.pass();
        Checks.equal("in the next week", x.visit(0), 0);
        Checks.fails("twice in the next week", NOT, () -> x.visit(0));
    }

    /** "In a box that was visited in this week": another box's visit does not do. */
    private static void eachBoxIsVisitedByItself() {
        SelectoRoute x = Routes.withBox(9);
        x.addBox(0, 9);
        x.addDisc(1, 40, 0);
        Checks.fails("slot of the other", NOT, () -> x.change(1, 0, 0));
        Checks.fails("needle of the other", NOT, () -> x.changeNeedle(1));
        Checks.equal("visit of the other", x.visit(1), 0);
        Checks.equal("slot of the other, visited", x.change(1, 0, 0), -1);
        Checks.equal("needle of the other, visited", x.changeNeedle(1), 0);
        Checks.equal("needle of the first", x.changeNeedle(0), 0);
        Checks.equal("minutes of two visits, a slot and two needles", x.getMinutes(), 600 - 80 - 10 - 5 - 5);
    }

    /** A box without a cent: nothing is taken, nothing is shared. */
    private static void emptyBox() {
        SelectoRoute x = new SelectoRoute();
        x.addBox(60, 0);
        Checks.equal("taken", x.visit(0), 0);
        Checks.equal("share", x.getShare(0), 0);
        Checks.equal("earned", x.getEarned(), 0);
        Checks.equal("short", x.getShort(0), 0);
        x.insert(0, 's');
        x.pass();
        Checks.equal("taken with a slug", x.visit(0), 0);
        x.insert(0, 'n');
        x.pass();
        Checks.equal("taken with a nickel", x.visit(0), 5);
        Checks.equal("none is left", x.getCents(0), 0);
    }

    /** "it frees a jammed box" */
    private static void freed() {
        SelectoRoute x = Routes.withBox(9, 40);
        x.addBox(0, 9);
        x.insert(0, 'n');
        x.press(0, 0);
        Routes.jam(x, 0);
        Checks.fails("it was visited in this week", NOT, () -> x.visit(0));
        Checks.holds("jammed", x.isJammed(0));
        Checks.equal("a slot of a jammed box can be changed", x.change(0, 9, -1), -1);
        Checks.equal("and its needle", x.changeNeedle(0), 0);
        Checks.holds("jammed by that still", x.isJammed(0));
        x.visit(1);
        Checks.holds("jammed, whoever else is visited", x.isJammed(0));
        x.pass();
        x.visit(0);
        Checks.holds("freed", !x.isJammed(0));
        x.pass();
        x.visit(0);
        Checks.holds("not jammed by a visit", !x.isJammed(0));
    }

    /** "the landlord gets the share of them, cut, the route the rest" */
    private static void shareIsCut() {
        share(0, 'q', 0, 25);
        share(3, 'q', 0, 25);
        share(4, 'q', 1, 24);
        share(19, 'n', 0, 5);
        share(20, 'n', 1, 4);
        share(39, 'n', 1, 4);
        share(59, 'n', 2, 3);
        share(60, 'n', 3, 2);
        share(60, 'q', 15, 10);
    }

    private static void share(int share, char coin, int landlord, int route) {
        SelectoRoute x = new SelectoRoute();
        x.addBox(share, 0);
        x.insert(0, coin);
        Checks.equal("all is taken", x.visit(0), landlord + route);
        Checks.equal("share of " + share, x.getShare(0), landlord);
        Checks.equal("the rest", x.getEarned(), route);
    }

    /** What is cut is cut at each visit and in each box, not of all the cents in the end. */
    private static void sharesAreCutApart() {
        SelectoRoute x = new SelectoRoute();
        x.addBox(19, 0);
        x.addBox(19, 0);
        for (int week = 0; week < 2; week++) {
            x.insert(0, 'n');
            x.insert(1, 'n');
            x.visit(0);
            x.visit(1);
            x.pass();
        }
        Checks.equal("box 0", x.getShare(0), 0);
        Checks.equal("box 1", x.getShare(1), 0);
        Checks.equal("the route", x.getEarned(), 20);
    }

    /** "0 without a visit" */
    private static void shortWithoutAVisit() {
        SelectoRoute x = new SelectoRoute();
        x.addBox(0, 0);
        Checks.equal("at first", x.getShort(0), 0);
        x.insert(0, 'q');
        Checks.equal("with cents", x.getShort(0), 0);
        x.pass();
        Checks.equal("a week later", x.getShort(0), 0);
        x.visit(0);
        Checks.equal("with a visit", x.getShort(0), -25);
    }

    /** "the cents, less than 0 if there were more": one play and a slug, a nickel, a dime. */
    private static void shortMoreAndLess() {
        shortOfOnePlay('s', 5);
        shortOfOnePlay('n', 0);
        shortOfOnePlay('d', -5);
        shortOfOnePlay('q', -20);
    }

    private static void shortOfOnePlay(char coin, int due) {
        SelectoRoute x = Routes.withBox(9, 1);
        x.insert(0, coin);
        x.press(0, 0);
        x.play(0);
        x.pass();
        x.visit(0);
        Checks.equal("short of " + coin, x.getShort(0), due);
    }

    /** "5 for each play in the box since the visit ahead" */
    private static void shortSinceTheVisitAhead() {
        SelectoRoute x = Routes.withBox(9, 1);
        x.insert(0, 's');
        x.press(0, 0);
        x.play(0);
        Checks.equal("the last visit's, until the next", x.getShort(0), 0);
        x.pass();
        x.visit(0);
        Checks.equal("one play", x.getShort(0), 5);
        x.press(0, 0);
        x.press(0, 0);
        x.play(0);
        x.play(0);
        Checks.equal("the last visit's, until the next", x.getShort(0), 5);
        x.pass();
        x.visit(0);
        Checks.equal("two plays since then", x.getShort(0), 10);
        x.pass();
        x.visit(0);
        Checks.equal("no play since then", x.getShort(0), 0);
    }

    /** A play that jams, and one of nothing, are no plays. */
    private static void shortOfPlaysInAJammedWeek() {
        SelectoRoute x = Routes.withBox(9, 1);
        x.insert(0, 's');
        x.press(0, 0);
        x.change(0, 0, -1);
        Checks.equal("nothing is played", x.play(0), 'b');
        x.change(0, 0, 0);
        x.press(0, 0);
        Routes.jam(x, 0);
        x.pass();
        x.visit(0);
        Checks.equal("no play", x.getShort(0), 0);
    }

    /** "of slots that were changed since, too": for another disc, for none, and by guests. */
    private static void shortOfChangedSlots() {
        SelectoRoute x = Routes.withBox(9, 50, 1);
        x.addDisc(1, 1, 0);
        x.insert(0, 's');
        x.press(0, 1);
        x.press(0, 1);
        x.play(0);
        x.change(0, 1, 2);
        x.play(0);
        x.change(0, 1, -1);
        x.pass();
        Checks.equal("guests at slot 0", x.getCents(0), 30);
        x.visit(0);
        Checks.equal("two plays of slot 1, six of slot 0, less 30 cents", x.getShort(0), 10);
    }

    /** "A disc that is put in comes from the van" */
    private static void discsOfTheVanAlone() {
        SelectoRoute x = Routes.withBox(9, 40);
        x.addBox(0, 9);
        x.visit(1);
        x.addDisc(1, 30, 0);
        x.addDisc(1, 30, 0);
        x.burn(2);
        Checks.fails("into the slot where it is", NOT, () -> x.change(0, 0, 0));
        Checks.fails("into the slot beside it", NOT, () -> x.change(0, 1, 0));
        Checks.fails("into another box", NOT, () -> x.change(1, 0, 0));
        Checks.fails("a burnt one", NOT, () -> x.change(0, 1, 2));
        Checks.equal("one of the van", x.change(0, 1, 1), -1);
        Checks.fails("the same, again", NOT, () -> x.change(0, 2, 1));
        Checks.equal("none", x.change(0, 0, -1), 0);
        Checks.equal("the one that came back", x.change(1, 0, 0), -1);
    }

    /** "that which was there goes to it", "the disc that was there, -1 for none" */
    private static void discThatWasThere() {
        SelectoRoute x = Routes.withBox(9);
        x.addDisc(1, 40, 0);
        x.addDisc(1, 40, 0);
        Checks.equal("none for none", x.change(0, 9, -1), -1);
        Checks.equal("a disc for none", x.change(0, 9, 0), -1);
        Checks.equal("a disc for a disc", x.change(0, 9, 1), 0);
        Checks.equal("the one that was there", x.getPlace(0), -1);
        Checks.equal("the one that was put in", x.getPlace(1), 9);
        Checks.equal("none for a disc", x.change(0, 9, -1), 1);
        Checks.equal("the one that was there", x.getPlace(1), -1);
        Checks.equal("none for none, again", x.change(0, 9, -1), -1);
    }

    /** "the wheel of the slot is 0 then, also if none is put in" */
    private static void wheelAtZero() {
        SelectoRoute x = Routes.withBox(9, 40);
        x.addDisc(1, 40, 0);
        Routes.play(x, 0, 0, 2);
        Checks.equal("two plays", x.getWheel(0, 0), 2);
        x.change(0, 0, 1);
        Checks.equal("another disc", x.getWheel(0, 0), 0);
        Routes.play(x, 0, 0, 1);
        Checks.equal("one play", x.getWheel(0, 0), 1);
        x.change(0, 0, -1);
        Checks.equal("no disc", x.getWheel(0, 0), 0);
        x.change(0, 0, 0);
        Checks.equal("the first disc again", x.getWheel(0, 0), 0);
        Checks.equal("its wear stays", x.getWear(0), 2);
    }

    private static void otherWheelsStay() {
        SelectoRoute x = Routes.withBox(9, 40, 40);
        Routes.play(x, 0, 0, 1);
        Routes.play(x, 0, 1, 2);
        x.change(0, 0, -1);
        Checks.equal("the slot beside it", x.getWheel(0, 1), 2);
        x.visit(x.addBox(0, 9));
        x.change(1, 1, -1);
        Checks.equal("the same slot of another box", x.getWheel(0, 1), 2);
        x.changeNeedle(0);
        Checks.equal("a new needle", x.getWheel(0, 1), 2);
        x.pass();
        x.visit(0);
        Checks.equal("five guests more, and a visit", x.getWheel(0, 1), 2 + 5);
    }

    /** Changing the needle "Returns the wear before" */
    private static void needleAtZero() {
        SelectoRoute x = Routes.withBox(9, 40);
        Checks.equal("a new one", x.changeNeedle(0), 0);
        Routes.play(x, 0, 0, 1);
        Checks.equal("one play", x.changeNeedle(0), 1);
        Checks.equal("then", x.getNeedle(0), 0);
        Checks.equal("again", x.changeNeedle(0), 0);
        Routes.play(x, 0, 0, 40);
        x.changeNeedle(0);
        int wear = x.getWear(0);
        Routes.play(x, 0, 0, 1);
        Checks.equal("a new needle wears by 1", x.getWear(0) - wear, 1);
    }

    /** Burning is refused "if it is not in the van" */
    private static void burningInTheVanAlone() {
        SelectoRoute x = Routes.withBox(9, 40);
        Routes.play(x, 0, 0, 3);
        Checks.fails("in a slot", NOT, () -> x.burn(0));
        x.change(0, 0, -1);
        Checks.equal("in the van", x.burn(0), 3);
        Checks.fails("burnt", NOT, () -> x.burn(0));
        Checks.equal("its wear stays", x.getWear(0), 3);
        Checks.equal("a new one", x.burn(x.addDisc(1, 40, 0)), 0);
    }
}
