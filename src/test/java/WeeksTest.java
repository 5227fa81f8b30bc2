/** Promises 20 to 22: what guests do in a week, the week, and the minutes. */
public final class WeeksTest {
    private static final int NEXT_IS_5 = 1105902161;

    public static void main(String[] args) {
        weeksAndMinutes();
        guestsPlay();
        guestsLeaveNothing();
        wearOfManyWeeks();
        slotBySlot();
        boxByBox();
        jammedBox();
        queueStays();
        visitsEnd();
        Checks.finish();
    }

    private static void weeksAndMinutes() {
        SelectoRoute x = new SelectoRoute();
        x.addBox(0, 0);
        x.visit(0);
        Checks.equal("minutes after a visit", x.getMinutes(), 560);
        for (int week = 1; week <= 99; week++) {
            Checks.equal("week", x.pass(), week);
            Checks.equal("week", x.getWeek(), week);
            Checks.equal("minutes", x.getMinutes(), 600);
        }
        x.visit(0);
        Checks.fails("behind week 99", IllegalStateException.class, x::pass);
        Checks.equal("still week 99", x.getWeek(), 99);
        Checks.equal("minutes as before", x.getMinutes(), 560);
    }

    private static void guestsPlay() {
        SelectoRoute x = new SelectoRoute();
        x.addDisc(0, 47, 0);
        x.addDisc(1, 50, 0);
        x.addBox(0, 9);
        x.visit(0);
        x.change(0, 3, 0);
        x.insert(0, 'd');
        x.pass();
        Checks.equal("an eighth of 47, cut", x.getWheel(0, 3), 5);
        Checks.equal("wear by as many", x.getWear(0), 5);
        Checks.equal("needle by as many", x.getNeedle(0), 5);
        Checks.equal("5 cents for each", x.getCents(0), 35);
        Checks.equal("credits stay", x.getCredits(0), 2);
        Checks.equal("no wear in the van", x.getWear(1), 0);
        Checks.equal("z stays", x.setSeed(1), 1);
        x.pass();
        Checks.equal("then an eighth of 45", x.getWheel(0, 3), 10);
    }

    private static void guestsLeaveNothing() {
        SelectoRoute x = new SelectoRoute();
        x.addDisc(0, 7, 0);
        x.addDisc(1, 50, 1);
        x.addBox(0, 9);
        x.visit(0);
        x.change(0, 0, 0);
        x.change(0, 1, 1);
        x.pass();
        Checks.equal("pull 7", x.getWheel(0, 0), 0);
        Checks.equal("ahead of its week", x.getWheel(0, 1), 0);
        Checks.equal("cents", x.getCents(0), 0);
        x.pass();
        Checks.equal("in its week", x.getWheel(0, 1), 6);
    }

    private static void wearOfManyWeeks() {
        int[] wheels = {9, 18, 26, 34, 41, 48, 54, 54, 54};
        int[] wears = {9, 18, 26, 34, 41, 55, 67, 67, 67};
        SelectoRoute x = new SelectoRoute();
        x.addDisc(30, 50, 0);
        x.addBox(0, 0);
        x.visit(0);
        x.change(0, 0, 0);
        for (int i = 0; i < wheels.length; i++) {
            x.pass();
            Checks.equal("wheel", x.getWheel(0, 0), wheels[i]);
            Checks.equal("wear", x.getWear(0), wears[i]);
            Checks.equal("needle", x.getNeedle(0), wheels[i]);
            Checks.equal("cents", x.getCents(0), 5 * wheels[i]);
        }
    }

    /** The needle that a slot finds is the one that the slots ahead of it leave. */
    private static void slotBySlot() {
        SelectoRoute x = new SelectoRoute();
        x.addBox(0, 9);
        x.visit(0);
        for (int i = 0; i < 10; i++) {
            x.addDisc(i == 9 ? 8 : i, 50, 0);
            x.change(0, i, i);
        }
        x.pass();
        for (int i = 0; i < 7; i++) {
            Checks.equal("wear with a needle below 40", x.getWear(i), 6);
        }
        for (int i = 7; i < 10; i++) {
            Checks.equal("wear with a needle from 42 on", x.getWear(i), 12);
        }
        Checks.equal("needle", x.getNeedle(0), 60);
        Checks.equal("cents", x.getCents(0), 300);
    }

    private static void boxByBox() {
        SelectoRoute x = new SelectoRoute();
        for (int box = 0; box < 4; box++) {
            x.addBox(0, box);
            x.addDisc(1, 40, 0);
            x.visit(box);
            x.change(box, box, box);
        }
        x.pass();
        for (int box = 0; box < 4; box++) {
            Checks.equal("needle", x.getNeedle(box), box == 1 ? 7 : 5);
            Checks.equal("cents", x.getCents(box), box == 1 ? 35 : 25);
        }
    }

    private static void jammedBox() {
        SelectoRoute x = new SelectoRoute();
        for (int box = 0; box < 2; box++) {
            x.addBox(0, 9);
            x.addDisc(1, 40, 0);
            x.visit(box);
            x.change(box, 0, box);
        }
        x.insert(0, 'n');
        x.press(0, 0);
        x.setRisk(0, 20);
        x.setSeed(NEXT_IS_5);
        x.play(0);
        x.pass();
        Checks.equal("no guests at the jammed box", x.getWheel(0, 0), 0);
        Checks.equal("cents of the jammed box", x.getCents(0), 5);
        Checks.equal("guests at the other box", x.getWheel(1, 0), 5);
        x.visit(0);
        x.pass();
        Checks.equal("guests at the freed box", x.getWheel(0, 0), 4);
    }

    private static void queueStays() {
        SelectoRoute x = new SelectoRoute();
        x.addBox(0, 9);
        x.addDisc(1, 40, 0);
        x.visit(0);
        x.change(0, 0, 0);
        x.insert(0, 'd');
        x.press(0, 0);
        x.press(0, 0);
        x.pass();
        Checks.equal("queue after a week", x.getQueued(0), 2);
        Checks.equal("it plays", x.play(0), 'p');
        Checks.equal("wheel", x.getWheel(0, 0), 6);
    }

    private static void visitsEnd() {
        SelectoRoute x = new SelectoRoute();
        x.addBox(0, 9);
        x.addDisc(1, 40, 0);
        x.visit(0);
        x.pass();
        Checks.fails("slot", UnsupportedOperationException.class, () -> x.change(0, 0, 0));
        Checks.fails("needle", UnsupportedOperationException.class, () -> x.changeNeedle(0));
        Checks.equal("visit again", x.visit(0), 0);
        Checks.equal("change again", x.change(0, 0, 0), -1);
    }
}
