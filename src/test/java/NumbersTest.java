/** Numbers that are too small, the least, the greatest, and too large: of boxes, slots and discs, and each range. */
public final class NumbersTest {
    private static final int LOW = Integer.MIN_VALUE;
    private static final int HIGH = Integer.MAX_VALUE;

    private interface ByNumber {
        void on(SelectoRoute x, int number);
    }

    public static void main(String[] args) {
        boxesThatAct();
        boxesThatAreRead();
        slots();
        discs();
        discOrNone();
        boxesOfTheFewest();
        songOfADisc();
        strength();
        weekOfADisc();
        share();
        taste();
        risk();
        seed();
        songAskedFor();
        many();
        Checks.finish();
    }

    /** Four boxes, all visited, each with discs in its slots 0 and 9, a credit, a queue and a song asked for. */
    private static SelectoRoute four() {
        SelectoRoute x = new SelectoRoute();
        for (int box = 0; box < 4; box++) {
            x.addBox(10, 9);
            x.visit(box);
            x.change(box, 0, x.addDisc(1, 40, 0));
            x.change(box, 9, x.addDisc(2, 40, 0));
            x.insert(box, 'd');
            x.press(box, 9);
            x.ask(box, 7);
        }
        x.addDisc(3, 30, 0);
        return x;
    }

    private static void box(String what, ByNumber call) {
        for (int number : new int[] {LOW, -1, 4, 5, HIGH}) {
            Checks.outOfBounds(what + ", box " + number, () -> call.on(four(), number));
        }
        for (int number = 0; number < 4; number++) {
            int there = number;
            Checks.answers(what + ", box " + there, () -> call.on(four(), there));
        }
    }

    private static void boxesThatAct() {
        box("setRisk", (x, box) -> x.setRisk(box, 5));
        box("insert", (x, box) -> x.insert(box, 'n'));
        box("press", (x, box) -> x.press(box, 0));
        box("play", (x, box) -> x.play(box));
        box("visit", (x, box) -> {
            x.pass();
            x.visit(box);
        });
        box("change", (x, box) -> x.change(box, 0, 8));
        box("change to none", (x, box) -> x.change(box, 0, -1));
        box("changeNeedle", (x, box) -> x.changeNeedle(box));
        box("ask", (x, box) -> x.ask(box, 0));
    }

    private static void boxesThatAreRead() {
        box("getCredits", (x, box) -> x.getCredits(box));
        box("getQueued", (x, box) -> x.getQueued(box));
        box("getCents", (x, box) -> x.getCents(box));
        box("isJammed", (x, box) -> x.isJammed(box));
        box("getWheel", (x, box) -> x.getWheel(box, 0));
        box("getNeedle", (x, box) -> x.getNeedle(box));
        box("discAt", (x, box) -> x.discAt(box, 0));
        box("pullIn", (x, box) -> x.pullIn(box, 8));
        box("getShort", (x, box) -> x.getShort(box));
        box("getShare", (x, box) -> x.getShare(box));
        box("mostAsked", (x, box) -> x.mostAsked(box));
        box("least", (x, box) -> x.least(box));
        box("worth", (x, box) -> x.worth(box, 0, 8));
        box("bestWorth", (x, box) -> x.bestWorth(box, 1));
    }

    private static void slot(String what, ByNumber call) {
        for (int number : new int[] {LOW, -1, 10, 11, HIGH}) {
            Checks.outOfBounds(what + ", slot " + number, () -> call.on(four(), number));
        }
        Checks.answers(what + ", slot 0", () -> call.on(four(), 0));
        Checks.answers(what + ", slot 9", () -> call.on(four(), 9));
    }

    private static void slots() {
        slot("press", (x, slot) -> x.press(3, slot));
        slot("getWheel", (x, slot) -> x.getWheel(3, slot));
        slot("discAt", (x, slot) -> x.discAt(3, slot));
        slot("change", (x, slot) -> x.change(3, slot, 8));
        slot("change to none", (x, slot) -> x.change(3, slot, -1));
        slot("worth", (x, slot) -> x.worth(3, slot, 8));
    }

    /** A route with three discs in the van, and a box that was visited. */
    private static SelectoRoute three() {
        SelectoRoute x = Routes.withBox(9);
        for (int disc = 0; disc < 3; disc++) {
            x.addDisc(disc, 30, 0);
        }
        return x;
    }

    private static void disc(String what, ByNumber call) {
        for (int number : new int[] {LOW, -2, 3, 30, HIGH}) {
            Checks.outOfBounds(what + ", disc " + number, () -> call.on(three(), number));
        }
        Checks.answers(what + ", disc 0", () -> call.on(three(), 0));
        Checks.answers(what + ", disc 2", () -> call.on(three(), 2));
    }

    private static void discNeverNone(String what, ByNumber call) {
        disc(what, call);
        Checks.outOfBounds(what + ", disc -1", () -> call.on(three(), -1));
    }

    private static void discs() {
        discNeverNone("getWear", (x, disc) -> x.getWear(disc));
        discNeverNone("getPlace", (x, disc) -> x.getPlace(disc));
        discNeverNone("pull", (x, disc) -> x.pull(disc));
        discNeverNone("pullIn", (x, disc) -> x.pullIn(0, disc));
        discNeverNone("burn", (x, disc) -> x.burn(disc));
        discNeverNone("worth", (x, disc) -> x.worth(0, 0, disc));
    }

    /** "the disc, -1 for none" */
    private static void discOrNone() {
        disc("change", (x, disc) -> x.change(0, 0, disc));
        Checks.answers("change, disc -1", () -> three().change(0, 0, -1));
    }

    /** Without a box or a disc even the number 0 is none; with the first it is one, and 1 is not. */
    private static void boxesOfTheFewest() {
        SelectoRoute x = new SelectoRoute();
        Checks.outOfBounds("box 0 of none", () -> x.getCents(0));
        Checks.outOfBounds("disc 0 of none", () -> x.getWear(0));
        x.addBox(0, 0);
        Checks.outOfBounds("disc 0 of none, with a box", () -> x.getWear(0));
        x.addDisc(0, 1, 0);
        Checks.equal("box 0 of one", x.getCents(0), 0);
        Checks.equal("disc 0 of one", x.getWear(0), 0);
        Checks.outOfBounds("box 1 of one", () -> x.getCents(1));
        Checks.outOfBounds("disc 1 of one", () -> x.getWear(1));
    }

    /** The least and the greatest number of a range are taken; the next ones, and the farthest, are not. */
    private static void range(String what, int least, int greatest, ByNumber call) {
        for (int number : new int[] {LOW, least - 1, greatest + 1, HIGH}) {
            Checks.fails(what + " " + number, IllegalArgumentException.class, () -> call.on(four(), number));
        }
        Checks.answers(what + " " + least, () -> call.on(four(), least));
        Checks.answers(what + " " + greatest, () -> call.on(four(), greatest));
    }

    private static void songOfADisc() {
        range("addDisc, song", 0, 99, (x, song) -> x.addDisc(song, 25, 50));
    }

    private static void strength() {
        range("addDisc, strength", 1, 50, (x, strength) -> x.addDisc(50, strength, 50));
    }

    private static void weekOfADisc() {
        range("addDisc, week", 0, 99, (x, week) -> x.addDisc(50, 25, week));
    }

    private static void share() {
        range("addBox, share", 0, 60, (x, share) -> new SelectoRoute().addBox(share, 5));
    }

    private static void taste() {
        range("addBox, taste", 0, 9, (x, taste) -> new SelectoRoute().addBox(30, taste));
    }

    private static void risk() {
        range("setRisk", 0, 20, (x, risk) -> x.setRisk(3, risk));
    }

    private static void seed() {
        range("setSeed", 1, 2147483646, (x, z) -> x.setSeed(z));
    }

    private static void songAskedFor() {
        range("ask", 0, 99, (x, song) -> x.ask(3, song));
    }

    private static void many() {
        range("bestWorth", 0, 3, (x, many) -> x.bestWorth(3, many));
    }
}
