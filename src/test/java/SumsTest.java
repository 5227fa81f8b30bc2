/** Promises 35 to 38: the share of worn discs, the mean pull, the checksum, and soundness. */
public final class SumsTest {
    public static void main(String[] args) {
        wornShare();
        wornShareOfBurnt();
        meanPull();
        checksum();
        sound();
        Checks.finish();
    }

    /** Discs 0, 1 and so on of the pull 75 in the slots 0, 1 and so on of one box. */
    private static SelectoRoute route(int inSlots, int inVan) {
        SelectoRoute x = new SelectoRoute();
        x.addBox(0, 0);
        x.visit(0);
        for (int i = 0; i < inSlots; i++) {
            x.addDisc(0, 50, 0);
            x.change(0, i, i);
        }
        for (int i = 0; i < inVan; i++) {
            x.addDisc(0, 50, 0);
        }
        return x;
    }

    private static void wornShare() {
        SelectoRoute x = route(2, 1);
        Checks.same("none is worn", x.wornShare(), 0.0f);
        Routes.wear(x, 0, 0, 59);
        Checks.same("59 is not worn", x.wornShare(), 0.0f);
        x.press(0, 0);
        x.play(0);
        Checks.same("60 is worn", x.wornShare(), 1.0f / 3.0f);
        Checks.holds("a float, not a double", x.wornShare() != 1.0 / 3.0);
        x.change(0, 0, -1);
        Checks.same("in the van, too", x.wornShare(), 1.0f / 3.0f);
        x.changeNeedle(0);
        Routes.wear(x, 0, 1, 60);
        Checks.same("two of three", x.wornShare(), 2.0f / 3.0f);
    }

    private static void wornShareOfBurnt() {
        SelectoRoute x = new SelectoRoute();
        Checks.fails("no disc", ArithmeticException.class, x::wornShare);
        SelectoRoute y = route(1, 2);
        Routes.wear(y, 0, 0, 60);
        y.burn(1);
        Checks.same("a burnt one aside", y.wornShare(), 0.5f);
        y.burn(2);
        Checks.same("two burnt ones aside", y.wornShare(), 1.0f);
        y.change(0, 0, -1);
        y.burn(0);
        Checks.fails("all burnt", ArithmeticException.class, y::wornShare);
    }

    private static void meanPull() {
        SelectoRoute x = new SelectoRoute();
        x.addDisc(0, 50, 0);
        x.addDisc(1, 40, 0);
        x.addDisc(2, 33, 0);
        x.addDisc(3, 20, 1);
        x.addBox(0, 0);
        x.addBox(0, 3);
        Checks.fails("no disc in a box", ArithmeticException.class, x::meanPull);
        x.visit(0);
        x.visit(1);
        x.change(0, 0, 0);
        Checks.same("one disc", x.meanPull(), 75.0);
        x.change(1, 9, 1);
        Checks.same("two discs", x.meanPull(), 57.5);
        x.change(0, 1, 2);
        Checks.same("three discs", x.meanPull(), 148.0 / 3.0);
        x.change(1, 0, 3);
        Checks.same("one of them ahead of its week", x.meanPull(), 37.0);
        x.pass();
        Checks.same("a week later", x.meanPull(), (72 + 38 + 31 + 30) / 4.0);
    }

    private static void checksum() {
        SelectoRoute x = new SelectoRoute();
        x.addDisc(0, 50, 0);
        x.addDisc(1, 40, 0);
        x.addBox(40, 0);
        x.addBox(0, 3);
        Checks.equal("all at 0", x.checksum(), sum(0, 0, 0, 0, 0, 0, 0, 0, 0, 1));
        x.visit(1);
        x.change(1, 0, 1);
        x.insert(0, 'q');
        x.insert(1, 'd');
        x.press(1, 0);
        x.play(1);
        Checks.equal("after a play", x.checksum(), sum(0, 1, 25, 6, 0, 10, 1, 1, 0, 48271));
        x.visit(0);
        x.change(0, 9, 0);
        Checks.equal("after a visit", x.checksum(), sum(0, 1, 0, 6, 0, 10, 1, 1, 15, 48271));
        x.pass();
        Checks.equal("after a week", x.checksum(), sum(9, 6, 45, 6, 9, 35, 1, 6, 15, 48271));
        x.setSeed(2147483646);
        Checks.equal("another z", x.checksum(), sum(9, 6, 45, 6, 9, 35, 1, 6, 15, 2147483646));
        x.visit(0);
        x.change(0, 9, -1);
        x.burn(0);
        Checks.equal("a burnt disc counts", x.checksum(), sum(9, 6, 0, 6, 9, 35, 1, 6, 42, 2147483646));
    }

    private static long sum(long... parts) {
        long sum = 7;
        for (long part : parts) {
            sum = 31 * sum + part;
        }
        return sum;
    }

    private static void sound() {
        SelectoRoute x = route(10, 5);
        Checks.holds("at first", x.isSound());
        x.insert(0, 'q');
        x.insert(0, 'q');
        for (int i = 0; i < 8; i++) {
            x.press(0, i);
        }
        Checks.holds("with a full queue", x.isSound());
        for (int week = 0; week < 8; week++) {
            x.pass();
            Checks.holds("after a week", x.isSound());
            x.visit(0);
            Checks.holds("after a visit", x.isSound());
            x.change(0, week, 10 + week % 5);
            Checks.holds("after a change", x.isSound());
            x.change(0, week, -1);
            Checks.holds("after another", x.isSound());
        }
    }
}
