/** Promises 1 to 5 and 15 to 19: a new object, discs, boxes, risk, seed, wear, place and pull. */
public final class DiscsAndBoxesTest {
    private static final int NEXT_IS_5 = 1105902161;

    public static void main(String[] args) {
        newObject();
        discs();
        boxes();
        risk();
        seed();
        wearAndPlace();
        discAt();
        pullInTheVan();
        pullInABox();
        pullWithWear();
        pullOfTheBurnt();
        Checks.finish();
    }

    private static void newObject() {
        SelectoRoute x = new SelectoRoute();
        Checks.equal("week of a new route", x.getWeek(), 0);
        Checks.equal("minutes of a new route", x.getMinutes(), 600);
        Checks.equal("earned of a new route", x.getEarned(), 0);
        Checks.equal("checksum of a new route", x.checksum(), (7 * 31) * 31 + 1);
        Checks.holds("a new route is sound", x.isSound());
        Checks.outOfBounds("disc 0 of a new route", () -> x.getWear(0));
        Checks.outOfBounds("box 0 of a new route", () -> x.getCents(0));
    }

    private static void discs() {
        SelectoRoute x = new SelectoRoute();
        Class<IllegalArgumentException> range = IllegalArgumentException.class;
        Checks.fails("song -1", range, () -> x.addDisc(-1, 1, 0));
        Checks.fails("song 100", range, () -> x.addDisc(100, 1, 0));
        Checks.fails("strength 0", range, () -> x.addDisc(0, 0, 0));
        Checks.fails("strength 51", range, () -> x.addDisc(0, 51, 0));
        Checks.fails("week -1", range, () -> x.addDisc(0, 1, -1));
        Checks.fails("week 100", range, () -> x.addDisc(0, 1, 100));
        Checks.fails("least int", range, () -> x.addDisc(Integer.MIN_VALUE, 1, 0));
        Checks.equal("lowest numbers", x.addDisc(0, 1, 0), 0);
        Checks.equal("highest numbers", x.addDisc(99, 50, 99), 1);
        for (int i = 2; i < 30; i++) {
            Checks.equal("disc", x.addDisc(i, i, i), i);
        }
        Checks.fails("disc 31", IllegalStateException.class, () -> x.addDisc(0, 1, 0));
        Checks.fails("disc 31, out of range", range, () -> x.addDisc(0, 51, 0));
        Checks.equal("the last disc lies in the van", x.getPlace(29), -1);
        Checks.outOfBounds("disc 30", () -> x.getPlace(30));
        x.burn(0);
        Checks.fails("a burnt disc keeps its number", IllegalStateException.class, () -> x.addDisc(0, 1, 0));
    }

    private static void boxes() {
        SelectoRoute x = new SelectoRoute();
        Class<IllegalArgumentException> range = IllegalArgumentException.class;
        Checks.fails("share -1", range, () -> x.addBox(-1, 0));
        Checks.fails("share 61", range, () -> x.addBox(61, 0));
        Checks.fails("taste -1", range, () -> x.addBox(0, -1));
        Checks.fails("taste 10", range, () -> x.addBox(0, 10));
        Checks.equal("lowest numbers", x.addBox(0, 0), 0);
        Checks.equal("highest numbers", x.addBox(60, 9), 1);
        Checks.equal("third box", x.addBox(1, 1), 2);
        Checks.equal("fourth box", x.addBox(1, 1), 3);
        Checks.fails("fifth box", IllegalStateException.class, () -> x.addBox(1, 1));
        Checks.fails("fifth box, out of range", range, () -> x.addBox(61, 1));
        Checks.outOfBounds("box 4", () -> x.getCents(4));
        for (int slot = 0; slot < 10; slot++) {
            Checks.equal("wheel of an empty slot", x.getWheel(3, slot), 0);
        }
    }

    private static void risk() {
        SelectoRoute x = new SelectoRoute();
        x.addBox(0, 0);
        Checks.equal("risk at first", x.setRisk(0, 20), 0);
        Checks.fails("risk 21", IllegalArgumentException.class, () -> x.setRisk(0, 21));
        Checks.fails("risk -1", IllegalArgumentException.class, () -> x.setRisk(0, -1));
        Checks.equal("risk before", x.setRisk(0, 0), 20);
        Checks.equal("risk before", x.setRisk(0, 5), 0);
        Checks.outOfBounds("no box 1", () -> x.setRisk(1, 5));
        Checks.outOfBounds("no box 1, no risk 21", () -> x.setRisk(1, 21));
        Checks.outOfBounds("no box -1", () -> x.setRisk(-1, 5));
    }

    private static void seed() {
        SelectoRoute x = new SelectoRoute();
        Checks.equal("z at first", x.setSeed(2147483646), 1);
        Checks.fails("z 0", IllegalArgumentException.class, () -> x.setSeed(0));
        Checks.fails("z 2147483647", IllegalArgumentException.class, () -> x.setSeed(2147483647));
        Checks.fails("z -1", IllegalArgumentException.class, () -> x.setSeed(-1));
        Checks.equal("z before", x.setSeed(1), 2147483646);
        Checks.equal("z before", x.setSeed(NEXT_IS_5), 1);
        Checks.equal("z in the checksum", x.checksum(), 7 * 31 * 31 + NEXT_IS_5);
    }

    private static void wearAndPlace() {
        SelectoRoute x = new SelectoRoute();
        x.addDisc(1, 50, 0);
        x.addDisc(2, 50, 0);
        x.addBox(0, 9);
        x.addBox(0, 9);
        x.visit(1);
        x.change(1, 7, 0);
        Checks.equal("place in box 1, slot 7", x.getPlace(0), 17);
        Checks.equal("place in the van", x.getPlace(1), -1);
        x.pass();
        Checks.equal("wear by six plays", x.getWear(0), 6);
        Checks.equal("wear in the van", x.getWear(1), 0);
        x.visit(1);
        x.change(1, 7, -1);
        Checks.equal("place in the van again", x.getPlace(0), -1);
        Checks.equal("wear stays", x.getWear(0), 6);
        x.burn(0);
        Checks.equal("place of a burnt disc", x.getPlace(0), -2);
        Checks.equal("wear of a burnt disc", x.getWear(0), 6);
        Checks.outOfBounds("wear of disc 2", () -> x.getWear(2));
        Checks.outOfBounds("wear of disc -1", () -> x.getWear(-1));
        Checks.outOfBounds("place of disc 2", () -> x.getPlace(2));
        Checks.outOfBounds("place of disc -1", () -> x.getPlace(-1));
    }

    private static void discAt() {
        SelectoRoute x = new SelectoRoute();
        x.addDisc(1, 50, 0);
        x.addDisc(1, 50, 0);
        x.addBox(0, 9);
        x.visit(0);
        x.change(0, 9, 1);
        Checks.equal("disc in slot 9", x.discAt(0, 9), 1);
        Checks.fails("slot 0", java.util.NoSuchElementException.class, () -> x.discAt(0, 0));
        Checks.outOfBounds("slot 10", () -> x.discAt(0, 10));
        Checks.outOfBounds("slot -1", () -> x.discAt(0, -1));
        Checks.outOfBounds("box 1", () -> x.discAt(1, 9));
        x.change(0, 9, 0);
        Checks.equal("disc in slot 9 after a change", x.discAt(0, 9), 0);
    }

    private static void pullInTheVan() {
        SelectoRoute x = new SelectoRoute();
        x.addDisc(10, 33, 2);
        x.addDisc(10, 1, 0);
        Checks.equal("pull two weeks ahead", x.pull(0), 0);
        Checks.equal("pull of strength 1", x.pull(1), 1);
        x.pass();
        Checks.equal("pull a week ahead", x.pull(0), 0);
        Checks.equal("a fifth of 1 is cut to 0", x.pull(1), 0);
        x.pass();
        Checks.equal("pull in its week", x.pull(0), 33);
        x.pass();
        Checks.equal("pull a week later", x.pull(0), 31);
        for (int week = 4; week <= 15; week++) {
            x.pass();
        }
        Checks.equal("pull 13 weeks later", x.pull(0), 7);
        x.pass();
        Checks.equal("a fifth at least", x.pull(0), 6);
        for (int week = 17; week <= 99; week++) {
            x.pass();
        }
        Checks.equal("a fifth at the end", x.pull(0), 6);
        Checks.outOfBounds("pull of disc 2", () -> x.pull(2));
        Checks.outOfBounds("pull of disc -1", () -> x.pull(-1));
    }

    private static void pullInABox() {
        SelectoRoute x = new SelectoRoute();
        x.addDisc(17, 33, 0);
        x.addDisc(71, 33, 0);
        x.addDisc(7, 33, 1);
        x.addBox(0, 7);
        x.addBox(0, 1);
        Checks.equal("no taste in the van", x.pull(0), 33);
        Checks.equal("half of 33, cut, is added", x.pullIn(0, 0), 49);
        Checks.equal("another taste", x.pullIn(1, 0), 33);
        Checks.equal("the last digit counts", x.pullIn(0, 1), 33);
        Checks.equal("its own taste", x.pullIn(1, 1), 49);
        Checks.equal("ahead of its week", x.pullIn(0, 2), 0);
        x.visit(0);
        x.change(0, 0, 0);
        Checks.equal("pull where it is", x.pull(0), 49);
        Checks.equal("pull in another box than where it is", x.pullIn(1, 0), 33);
        x.change(0, 0, -1);
        Checks.equal("pull back in the van", x.pull(0), 33);
        Checks.outOfBounds("no box 2", () -> x.pullIn(2, 0));
        Checks.outOfBounds("no box -1", () -> x.pullIn(-1, 0));
        Checks.outOfBounds("no disc 3", () -> x.pullIn(0, 3));
        Checks.outOfBounds("no disc -1", () -> x.pullIn(0, -1));
    }

    private static void pullWithWear() {
        SelectoRoute x = new SelectoRoute();
        x.addDisc(0, 50, 0);
        x.addDisc(1, 1, 0);
        x.addBox(0, 0);
        x.visit(0);
        x.change(0, 0, 0);
        x.change(0, 1, 1);
        x.pass();
        x.pass();
        Checks.equal("wear after two weeks", x.getWear(0), 18);
        Checks.equal("a tenth of 18, cut, is taken off behind the taste", x.pull(0), 68);
        for (int i = 0; i < 10; i++) {
            x.insert(0, 's');
            x.press(0, 1);
            x.play(0);
        }
        Checks.equal("wear by ten plays", x.getWear(1), 10);
        Checks.equal("not less than 0", x.pull(1), 0);
        x.visit(0);
        x.change(0, 0, -1);
        Checks.equal("wear counts in the van", x.pull(0), 45);
    }

    private static void pullOfTheBurnt() {
        SelectoRoute x = new SelectoRoute();
        x.addDisc(0, 50, 0);
        x.addBox(0, 0);
        x.burn(0);
        Checks.equal("pull of a burnt disc", x.pull(0), 0);
        Checks.equal("pull of a burnt disc in a box", x.pullIn(0, 0), 0);
        Checks.outOfBounds("pull of a burnt disc in no box", () -> x.pullIn(1, 0));
    }
}
