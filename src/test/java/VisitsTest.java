/** Promises 23 to 29: visits, what is short, shares, changes of slots and needles, and burning. */
public final class VisitsTest {
    private static final Class<UnsupportedOperationException> NOT = UnsupportedOperationException.class;

    public static void main(String[] args) {
        visit();
        wrongVisits();
        shares();
        shortOfPlays();
        shortOfChangedSlots();
        change();
        changeToNone();
        wrongChanges();
        minutesForChanges();
        minutesForVisits();
        changeNeedle();
        minutesForNeedles();
        burn();
        Checks.finish();
    }

    private static SelectoRoute route(int share) {
        SelectoRoute x = new SelectoRoute();
        x.addDisc(0, 50, 0);
        x.addDisc(1, 40, 0);
        x.addDisc(2, 30, 0);
        x.addBox(share, 9);
        x.addBox(share, 9);
        return x;
    }

    private static void visit() {
        SelectoRoute x = route(0);
        x.insert(0, 'q');
        Checks.equal("cents that were taken", x.visit(0), 25);
        Checks.equal("cents in the box", x.getCents(0), 0);
        Checks.equal("minutes", x.getMinutes(), 560);
        Checks.equal("credits stay", x.getCredits(0), 6);
        Checks.equal("cents of the empty box", x.visit(1), 0);
        Checks.equal("minutes", x.getMinutes(), 520);
        x.insert(0, 'd');
        x.pass();
        Checks.equal("cents since then", x.visit(0), 10);
    }

    private static void wrongVisits() {
        SelectoRoute x = route(10);
        x.visit(0);
        x.insert(0, 'q');
        Checks.fails("twice in a week", NOT, () -> x.visit(0));
        Checks.equal("cents as before", x.getCents(0), 25);
        Checks.equal("minutes as before", x.getMinutes(), 560);
        Checks.outOfBounds("box 2", () -> x.visit(2));
        Checks.outOfBounds("box -1", () -> x.visit(-1));
    }

    private static void shares() {
        SelectoRoute x = route(33);
        x.insert(0, 'q');
        x.insert(0, 'n');
        x.insert(1, 'd');
        Checks.equal("share ahead of a visit", x.getShare(0), 0);
        x.visit(0);
        Checks.equal("33 hundredths of 30, cut", x.getShare(0), 9);
        Checks.equal("the route gets the rest", x.getEarned(), 21);
        Checks.equal("share of the other", x.getShare(1), 0);
        x.visit(1);
        Checks.equal("33 hundredths of 10, cut", x.getShare(1), 3);
        Checks.equal("the route in all", x.getEarned(), 28);
        x.insert(0, 'q');
        x.pass();
        x.visit(0);
        Checks.equal("share in all", x.getShare(0), 17);
        Checks.equal("the route in all", x.getEarned(), 45);
        Checks.holds("all cents are there", x.isSound());
        Checks.outOfBounds("getShare(2)", () -> x.getShare(2));
        Checks.outOfBounds("getShare(-1)", () -> x.getShare(-1));
    }

    private static void shortOfPlays() {
        SelectoRoute x = route(50);
        Checks.equal("without a visit", x.getShort(0), 0);
        x.insert(0, 's');
        x.visit(0);
        Checks.equal("slugs without plays", x.getShort(0), 0);
        x.change(0, 0, 0);
        x.press(0, 0);
        x.press(0, 0);
        x.play(0);
        x.play(0);
        Checks.equal("as at the last visit", x.getShort(0), 0);
        x.pass();
        x.visit(0);
        Checks.equal("two plays by a slug", x.getShort(0), 10);
        x.insert(0, 'q');
        x.pass();
        x.visit(0);
        Checks.equal("a quarter for no play", x.getShort(0), -25);
        x.pass();
        x.visit(0);
        Checks.equal("guests pay all", x.getShort(0), 0);
        Checks.equal("the other box", x.getShort(1), 0);
        Checks.outOfBounds("getShort(2)", () -> x.getShort(2));
        Checks.outOfBounds("getShort(-1)", () -> x.getShort(-1));
    }

    private static void shortOfChangedSlots() {
        SelectoRoute x = route(0);
        x.insert(0, 's');
        x.visit(0);
        x.change(0, 0, 0);
        x.press(0, 0);
        x.press(0, 0);
        x.play(0);
        x.change(0, 0, -1);
        Checks.equal("wheel", x.getWheel(0, 0), 0);
        Checks.equal("nothing is played", x.play(0), 'b');
        x.pass();
        x.visit(0);
        Checks.equal("one play of the slot that was changed", x.getShort(0), 5);
    }

    private static void change() {
        SelectoRoute x = route(0);
        x.visit(0);
        Checks.equal("into an empty slot", x.change(0, 4, 2), -1);
        Checks.equal("minutes", x.getMinutes(), 550);
        x.insert(0, 'd');
        x.press(0, 4);
        x.play(0);
        Checks.equal("for another", x.change(0, 4, 0), 2);
        Checks.equal("the one that was put in", x.getPlace(0), 4);
        Checks.equal("the one that was there", x.getPlace(2), -1);
        Checks.equal("wheel at 0", x.getWheel(0, 4), 0);
        Checks.equal("its wear stays", x.getWear(2), 1);
        Checks.equal("needle stays", x.getNeedle(0), 1);
        Checks.equal("minutes", x.getMinutes(), 540);
        x.visit(1);
        Checks.equal("the disc that came back", x.change(1, 0, 2), -1);
        Checks.equal("is in box 1", x.getPlace(2), 10);
    }

    private static void changeToNone() {
        SelectoRoute x = route(0);
        x.visit(0);
        x.change(0, 0, 1);
        x.insert(0, 'd');
        x.press(0, 0);
        x.play(0);
        Checks.equal("out", x.change(0, 0, -1), 1);
        Checks.equal("wheel at 0", x.getWheel(0, 0), 0);
        Checks.equal("in the van", x.getPlace(1), -1);
        Checks.equal("none for none", x.change(0, 0, -1), -1);
        Checks.equal("minutes", x.getMinutes(), 530);
    }

    private static void wrongChanges() {
        SelectoRoute x = route(0);
        Checks.fails("not visited", NOT, () -> x.change(0, 0, 0));
        Checks.outOfBounds("no disc, not visited", () -> x.change(0, 0, 3));
        x.visit(0);
        x.visit(1);
        x.change(0, 0, 0);
        Checks.outOfBounds("box 2", () -> x.change(2, 0, 1));
        Checks.outOfBounds("box -1", () -> x.change(-1, 0, 1));
        Checks.outOfBounds("slot 10", () -> x.change(0, 10, 1));
        Checks.outOfBounds("slot -1", () -> x.change(0, -1, 1));
        Checks.outOfBounds("slot 10, no disc", () -> x.change(0, 10, -1));
        Checks.outOfBounds("disc 3", () -> x.change(0, 0, 3));
        Checks.outOfBounds("disc -2", () -> x.change(0, 0, -2));
        Checks.fails("disc of the very slot", NOT, () -> x.change(0, 0, 0));
        Checks.fails("disc of another slot", NOT, () -> x.change(0, 1, 0));
        Checks.fails("disc of another box", NOT, () -> x.change(1, 0, 0));
        x.burn(1);
        Checks.fails("burnt disc", NOT, () -> x.change(0, 0, 1));
        Checks.equal("minutes as before", x.getMinutes(), 510);
        Checks.equal("disc as before", x.discAt(0, 0), 0);
    }

    private static void minutesForChanges() {
        SelectoRoute x = route(0);
        x.visit(0);
        for (int i = 0; i < 55; i++) {
            x.change(0, 0, -1);
        }
        Checks.equal("ten left", x.getMinutes(), 10);
        x.changeNeedle(0);
        Checks.fails("five are too few", NOT, () -> x.change(0, 0, 0));
        Checks.equal("five left", x.getMinutes(), 5);
        x.changeNeedle(0);
        Checks.fails("none are too few", NOT, () -> x.change(0, 0, 0));
        Checks.outOfBounds("no disc, no minutes", () -> x.change(0, 0, 3));
        x.pass();
        x.visit(0);
        for (int i = 0; i < 56; i++) {
            x.change(0, 0, -1);
        }
        Checks.equal("ten are enough", x.getMinutes(), 0);
    }

    private static void minutesForVisits() {
        SelectoRoute x = route(0);
        x.visit(0);
        for (int i = 0; i < 52; i++) {
            x.change(0, 0, -1);
        }
        Checks.equal("40 left", x.getMinutes(), 40);
        x.changeNeedle(0);
        Checks.fails("35 are too few", NOT, () -> x.visit(1));
        Checks.fails("not visited by that", NOT, () -> x.changeNeedle(1));
        Checks.equal("35 left", x.getMinutes(), 35);
        x.pass();
        x.visit(0);
        for (int i = 0; i < 52; i++) {
            x.change(0, 0, -1);
        }
        Checks.equal("40 are enough", x.visit(1), 0);
        Checks.equal("none left", x.getMinutes(), 0);
    }

    private static void changeNeedle() {
        SelectoRoute x = route(0);
        Checks.fails("not visited", NOT, () -> x.changeNeedle(0));
        x.visit(0);
        Checks.equal("new needle", x.changeNeedle(0), 0);
        Checks.equal("minutes", x.getMinutes(), 555);
        x.change(0, 0, 0);
        x.pass();
        Checks.fails("not visited in this week", NOT, () -> x.changeNeedle(0));
        x.visit(0);
        Checks.fails("the other was not visited", NOT, () -> x.changeNeedle(1));
        Checks.equal("wear before", x.changeNeedle(0), 6);
        Checks.equal("wear then", x.getNeedle(0), 0);
        Checks.equal("wear of the disc stays", x.getWear(0), 6);
        Checks.outOfBounds("box 2", () -> x.changeNeedle(2));
        Checks.outOfBounds("box -1", () -> x.changeNeedle(-1));
    }

    private static void minutesForNeedles() {
        SelectoRoute x = route(0);
        x.visit(0);
        for (int i = 0; i < 112; i++) {
            x.changeNeedle(0);
        }
        Checks.equal("none left", x.getMinutes(), 0);
        Checks.fails("none are too few", NOT, () -> x.changeNeedle(0));
        Checks.equal("none left", x.getMinutes(), 0);
    }

    private static void burn() {
        SelectoRoute x = route(0);
        x.visit(0);
        x.change(0, 0, 0);
        x.pass();
        Checks.fails("in a slot", NOT, () -> x.burn(0));
        Checks.equal("place as before", x.getPlace(0), 0);
        x.visit(0);
        x.change(0, 0, 1);
        Checks.equal("wear of the disc", x.burn(0), 6);
        Checks.equal("place", x.getPlace(0), -2);
        Checks.fails("burnt already", NOT, () -> x.burn(0));
        Checks.equal("without minutes", x.getMinutes(), 550);
        Checks.equal("wear of a new disc", x.burn(2), 0);
        Checks.outOfBounds("disc 3", () -> x.burn(3));
        Checks.outOfBounds("disc -1", () -> x.burn(-1));
    }
}
