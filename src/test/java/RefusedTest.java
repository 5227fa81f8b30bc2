import java.util.NoSuchElementException;

/**
 * The section "Exceptions": of several exceptions the one that is listed first is thrown, and a call that is
 * refused changes nothing. Each refused call is made on one of two like routes, which must answer alike then.
 */
public final class RefusedTest {
    private static final Class<IndexOutOfBoundsException> BOUNDS = IndexOutOfBoundsException.class;
    private static final Class<IllegalArgumentException> RANGE = IllegalArgumentException.class;
    private static final Class<UnsupportedOperationException> NOT = UnsupportedOperationException.class;
    private static final Class<IllegalStateException> STATE = IllegalStateException.class;
    private static final Class<NoSuchElementException> NONE = NoSuchElementException.class;
    private static final Class<ArithmeticException> EMPTY = ArithmeticException.class;

    private interface Scene {
        SelectoRoute make();
    }

    private interface RouteCall {
        void on(SelectoRoute x);
    }

    public static void main(String[] args) {
        addDisc();
        addBox();
        setRiskAndSeed();
        insert();
        press();
        play();
        readings();
        pass();
        visit();
        changeOutOfBounds();
        changeNotNow();
        changeNeedle();
        burn();
        ask();
        mostAskedAndLeast();
        worth();
        bestWorth();
        sums();
        aCallThatIsTakenShows();
        Checks.finish();
    }

    private static void refused(String what, Class<? extends RuntimeException> due, Scene scene, RouteCall call) {
        SelectoRoute one = scene.make();
        SelectoRoute other = scene.make();
        Checks.fails(what, due, () -> call.on(one));
        Checks.holds(what + " changed something", Probe.of(one).equals(Probe.of(other)));
    }

    /**
     * Two boxes, each with discs, credits, cents, a needle, a queue and songs asked for; a disc is burnt, two are in
     * the van. Box 0 was visited in this week, box 1 in the week ahead of it.
     */
    private static SelectoRoute lively() {
        SelectoRoute x = new SelectoRoute();
        x.addBox(30, 1);
        x.addBox(20, 2);
        int[] songs = {1, 2, 3, 1, 5, 6};
        for (int song : songs) {
            x.addDisc(song, 40, 0);
        }
        x.visit(0);
        x.visit(1);
        x.change(0, 0, 0);
        x.change(0, 9, 1);
        x.change(1, 4, 2);
        x.burn(3);
        x.setRisk(0, 7);
        x.pass();
        x.visit(0);
        for (int box = 0; box < 2; box++) {
            x.insert(box, 'q');
            x.press(box, 4 * box);
            x.press(box, 4 * box);
            x.play(box);
            x.ask(box, 5);
            x.ask(box, 99);
            x.ask(box, 99);
        }
        x.press(0, 9);
        return x;
    }

    private static SelectoRoute jammed() {
        SelectoRoute x = lively();
        Routes.jam(x, 0);
        return x;
    }

    private static SelectoRoute withAllCredits() {
        SelectoRoute x = lively();
        Routes.fillCredits(x, 0, 99);
        return x;
    }

    private static SelectoRoute jammedWithAllCredits() {
        SelectoRoute x = withAllCredits();
        Routes.jam(x, 0);
        return x;
    }

    private static SelectoRoute withFullQueue() {
        SelectoRoute x = lively();
        Routes.fillCredits(x, 0, 20);
        while (x.getQueued(0) < 8) {
            x.press(0, 9);
        }
        return x;
    }

    private static SelectoRoute withFullQueueAndNoCredit() {
        SelectoRoute x = lively();
        while (x.getQueued(0) < 8) {
            Routes.fillCredits(x, 0, 1);
            x.press(0, 9);
        }
        return x;
    }

    private static SelectoRoute withEmptyQueue() {
        SelectoRoute x = lively();
        x.setRisk(0, 0);
        while (x.getQueued(0) > 0) {
            x.play(0);
        }
        return x;
    }

    private static SelectoRoute withMinutes(int minutes) {
        SelectoRoute x = lively();
        Routes.spendTo(x, 0, 5, minutes);
        return x;
    }

    private static SelectoRoute inTheLastWeek() {
        SelectoRoute x = lively();
        Routes.pass(x, 98);
        x.visit(0);
        return x;
    }

    private static SelectoRoute full() {
        SelectoRoute x = lively();
        for (int disc = 6; disc < 30; disc++) {
            x.addDisc(disc, 10, 0);
        }
        x.addBox(0, 0);
        x.addBox(0, 0);
        return x;
    }

    private static SelectoRoute askedOften() {
        SelectoRoute x = lively();
        for (int i = 2; i < 99; i++) {
            x.ask(0, 99);
        }
        return x;
    }

    /** One box without a disc or a song asked for, and one disc, which is burnt. */
    private static SelectoRoute bare() {
        SelectoRoute x = new SelectoRoute();
        x.addBox(0, 0);
        x.addDisc(1, 20, 0);
        x.burn(0);
        return x;
    }

    private static void addDisc() {
        refused("addDisc, song -1", RANGE, RefusedTest::lively, x -> x.addDisc(-1, 20, 0));
        refused("addDisc, song 100", RANGE, RefusedTest::lively, x -> x.addDisc(100, 20, 0));
        refused("addDisc, strength 0", RANGE, RefusedTest::lively, x -> x.addDisc(1, 0, 0));
        refused("addDisc, strength 51", RANGE, RefusedTest::lively, x -> x.addDisc(1, 51, 0));
        refused("addDisc, week -1", RANGE, RefusedTest::lively, x -> x.addDisc(1, 20, -1));
        refused("addDisc, week 100", RANGE, RefusedTest::lively, x -> x.addDisc(1, 20, 100));
        refused("addDisc, the 31st", STATE, RefusedTest::full, x -> x.addDisc(1, 20, 0));
        refused("addDisc, the 31st, song 100", RANGE, RefusedTest::full, x -> x.addDisc(100, 20, 0));
        refused("addDisc, the 31st, strength 0", RANGE, RefusedTest::full, x -> x.addDisc(1, 0, 0));
        refused("addDisc, the 31st, week 100", RANGE, RefusedTest::full, x -> x.addDisc(1, 20, 100));
    }

    private static void addBox() {
        refused("addBox, share -1", RANGE, RefusedTest::lively, x -> x.addBox(-1, 0));
        refused("addBox, share 61", RANGE, RefusedTest::lively, x -> x.addBox(61, 0));
        refused("addBox, taste -1", RANGE, RefusedTest::lively, x -> x.addBox(0, -1));
        refused("addBox, taste 10", RANGE, RefusedTest::lively, x -> x.addBox(0, 10));
        refused("addBox, the fifth", STATE, RefusedTest::full, x -> x.addBox(0, 0));
        refused("addBox, the fifth, share 61", RANGE, RefusedTest::full, x -> x.addBox(61, 0));
        refused("addBox, the fifth, taste 10", RANGE, RefusedTest::full, x -> x.addBox(0, 10));
    }

    private static void setRiskAndSeed() {
        refused("setRisk, box 2", BOUNDS, RefusedTest::lively, x -> x.setRisk(2, 1));
        refused("setRisk, box 2, risk 21", BOUNDS, RefusedTest::lively, x -> x.setRisk(2, 21));
        refused("setRisk, box -1, risk -1", BOUNDS, RefusedTest::lively, x -> x.setRisk(-1, -1));
        refused("setRisk, risk 21", RANGE, RefusedTest::lively, x -> x.setRisk(0, 21));
        refused("setRisk, risk -1", RANGE, RefusedTest::lively, x -> x.setRisk(0, -1));
        refused("setSeed, 0", RANGE, RefusedTest::lively, x -> x.setSeed(0));
        refused("setSeed, 2147483647", RANGE, RefusedTest::lively, x -> x.setSeed(2147483647));
    }

    private static void insert() {
        refused("insert, box 2", BOUNDS, RefusedTest::lively, x -> x.insert(2, 'n'));
        refused("insert, box 2, coin x", BOUNDS, RefusedTest::lively, x -> x.insert(2, 'x'));
        refused("insert, coin x", RANGE, RefusedTest::lively, x -> x.insert(0, 'x'));
        refused("insert, jammed, coin x", RANGE, RefusedTest::jammed, x -> x.insert(0, 'x'));
        refused("insert, 99 credits, coin x", RANGE, RefusedTest::withAllCredits, x -> x.insert(0, 'x'));
        refused("insert, jammed", NOT, RefusedTest::jammed, x -> x.insert(0, 'n'));
        refused("insert, jammed, 99 credits", NOT, RefusedTest::jammedWithAllCredits, x -> x.insert(0, 'n'));
        refused("insert, all, coin x", RANGE, RefusedTest::jammedWithAllCredits, x -> x.insert(0, 'x'));
        refused("insert, 99 credits, n", STATE, RefusedTest::withAllCredits, x -> x.insert(0, 'n'));
        refused("insert, 99 credits, d", STATE, RefusedTest::withAllCredits, x -> x.insert(0, 'd'));
        refused("insert, 99 credits, q", STATE, RefusedTest::withAllCredits, x -> x.insert(0, 'q'));
        refused("insert, 99 credits, s", STATE, RefusedTest::withAllCredits, x -> x.insert(0, 's'));
    }

    private static void press() {
        Scene noCredit = RefusedTest::withFullQueueAndNoCredit;
        refused("press, box 2", BOUNDS, RefusedTest::lively, x -> x.press(2, 0));
        refused("press, slot 10", BOUNDS, RefusedTest::lively, x -> x.press(0, 10));
        refused("press, slot -1", BOUNDS, RefusedTest::lively, x -> x.press(0, -1));
        refused("press, slot 10, no credit", BOUNDS, RefusedTest::bare, x -> x.press(0, 10));
        refused("press, slot 10, full queue", BOUNDS, RefusedTest::withFullQueue, x -> x.press(0, 10));
        refused("press, empty slot", NOT, RefusedTest::lively, x -> x.press(0, 5));
        refused("press, empty slot, no credit", NOT, RefusedTest::bare, x -> x.press(0, 5));
        refused("press, empty slot, full queue", NOT, RefusedTest::withFullQueue, x -> x.press(0, 5));
        refused("press, no credit, full queue", NOT, noCredit, x -> x.press(0, 9));
        refused("press, empty slot, no credit, full queue", NOT, noCredit, x -> x.press(0, 5));
        refused("press, full queue", STATE, RefusedTest::withFullQueue, x -> x.press(0, 9));
    }

    private static void play() {
        refused("play, box 2", BOUNDS, RefusedTest::lively, x -> x.play(2));
        refused("play, box -1", BOUNDS, RefusedTest::lively, x -> x.play(-1));
        refused("play, jammed", NOT, RefusedTest::jammed, x -> x.play(0));
        refused("play, empty queue", NONE, RefusedTest::withEmptyQueue, x -> x.play(0));
        refused("play, empty queue of a bare box", NONE, RefusedTest::bare, x -> x.play(0));
    }

    private static void readings() {
        refused("getCredits, box 2", BOUNDS, RefusedTest::lively, x -> x.getCredits(2));
        refused("getQueued, box 2", BOUNDS, RefusedTest::lively, x -> x.getQueued(2));
        refused("getCents, box 2", BOUNDS, RefusedTest::lively, x -> x.getCents(2));
        refused("isJammed, box 2", BOUNDS, RefusedTest::lively, x -> x.isJammed(2));
        refused("getWheel, box 2", BOUNDS, RefusedTest::lively, x -> x.getWheel(2, 0));
        refused("getWheel, slot 10", BOUNDS, RefusedTest::lively, x -> x.getWheel(0, 10));
        refused("getNeedle, box 2", BOUNDS, RefusedTest::lively, x -> x.getNeedle(2));
        refused("getWear, disc 6", BOUNDS, RefusedTest::lively, x -> x.getWear(6));
        refused("getPlace, disc 6", BOUNDS, RefusedTest::lively, x -> x.getPlace(6));
        refused("discAt, box 2", BOUNDS, RefusedTest::lively, x -> x.discAt(2, 0));
        refused("discAt, slot 10", BOUNDS, RefusedTest::lively, x -> x.discAt(0, 10));
        refused("discAt, empty slot", NONE, RefusedTest::lively, x -> x.discAt(0, 5));
        refused("pull, disc 6", BOUNDS, RefusedTest::lively, x -> x.pull(6));
        refused("pullIn, box 2", BOUNDS, RefusedTest::lively, x -> x.pullIn(2, 0));
        refused("pullIn, disc 6", BOUNDS, RefusedTest::lively, x -> x.pullIn(0, 6));
        refused("pullIn, box 2, burnt disc", BOUNDS, RefusedTest::lively, x -> x.pullIn(2, 3));
        refused("getShort, box 2", BOUNDS, RefusedTest::lively, x -> x.getShort(2));
        refused("getShare, box 2", BOUNDS, RefusedTest::lively, x -> x.getShare(2));
    }

    private static void pass() {
        refused("pass, week 99", STATE, RefusedTest::inTheLastWeek, SelectoRoute::pass);
    }

    private static void visit() {
        refused("visit, box 2", BOUNDS, RefusedTest::lively, x -> x.visit(2));
        refused("visit, box 2, no minute", BOUNDS, () -> withMinutes(0), x -> x.visit(2));
        refused("visit, visited", NOT, RefusedTest::lively, x -> x.visit(0));
        refused("visit, visited and jammed since", NOT, RefusedTest::jammed, x -> x.visit(0));
        refused("visit, 35 minutes", NOT, () -> withMinutes(35), x -> x.visit(1));
        refused("visit, visited, no minute", NOT, () -> withMinutes(0), x -> x.visit(0));
    }

    private static void changeOutOfBounds() {
        refused("change, box 2", BOUNDS, RefusedTest::lively, x -> x.change(2, 0, 4));
        refused("change, slot 10", BOUNDS, RefusedTest::lively, x -> x.change(0, 10, 4));
        refused("change, slot -1, none", BOUNDS, RefusedTest::lively, x -> x.change(0, -1, -1));
        refused("change, disc 6", BOUNDS, RefusedTest::lively, x -> x.change(0, 0, 6));
        refused("change, disc -2", BOUNDS, RefusedTest::lively, x -> x.change(0, 0, -2));
        refused("change, slot 10, not visited", BOUNDS, RefusedTest::lively, x -> x.change(1, 10, 4));
        refused("change, disc 6, not visited", BOUNDS, RefusedTest::lively, x -> x.change(1, 0, 6));
        refused("change, box 2, disc not in the van", BOUNDS, RefusedTest::lively, x -> x.change(2, 0, 0));
        refused("change, slot 10, disc not in the van", BOUNDS, RefusedTest::lively, x -> x.change(0, 10, 0));
        refused("change, slot 10, 5 minutes", BOUNDS, () -> withMinutes(5), x -> x.change(0, 10, 4));
        refused("change, disc 6, 5 minutes", BOUNDS, () -> withMinutes(5), x -> x.change(0, 0, 6));
    }

    private static void changeNotNow() {
        refused("change, not visited", NOT, RefusedTest::lively, x -> x.change(1, 0, 4));
        refused("change to none, not visited", NOT, RefusedTest::lively, x -> x.change(1, 4, -1));
        refused("change, disc of the slot", NOT, RefusedTest::lively, x -> x.change(0, 0, 0));
        refused("change, disc of another slot", NOT, RefusedTest::lively, x -> x.change(0, 0, 1));
        refused("change, disc of another box", NOT, RefusedTest::lively, x -> x.change(0, 0, 2));
        refused("change, burnt disc", NOT, RefusedTest::lively, x -> x.change(0, 0, 3));
        refused("change, 5 minutes", NOT, () -> withMinutes(5), x -> x.change(0, 0, 4));
        refused("change to none, 5 minutes", NOT, () -> withMinutes(5), x -> x.change(0, 0, -1));
        refused("change, a disc asked for, 5 minutes", NOT, () -> withMinutes(5), x -> x.change(0, 5, 4));
    }

    private static void changeNeedle() {
        refused("changeNeedle, box 2", BOUNDS, RefusedTest::lively, x -> x.changeNeedle(2));
        refused("changeNeedle, box 2, no minute", BOUNDS, () -> withMinutes(0), x -> x.changeNeedle(2));
        refused("changeNeedle, not visited", NOT, RefusedTest::lively, x -> x.changeNeedle(1));
        refused("changeNeedle, no minute", NOT, () -> withMinutes(0), x -> x.changeNeedle(0));
    }

    private static void burn() {
        refused("burn, disc 6", BOUNDS, RefusedTest::lively, x -> x.burn(6));
        refused("burn, disc -1", BOUNDS, RefusedTest::lively, x -> x.burn(-1));
        refused("burn, in a slot", NOT, RefusedTest::lively, x -> x.burn(0));
        refused("burn, burnt", NOT, RefusedTest::lively, x -> x.burn(3));
    }

    private static void ask() {
        refused("ask, box 2", BOUNDS, RefusedTest::lively, x -> x.ask(2, 0));
        refused("ask, box 2, song 100", BOUNDS, RefusedTest::lively, x -> x.ask(2, 100));
        refused("ask, song 100", RANGE, RefusedTest::lively, x -> x.ask(0, 100));
        refused("ask, song -1", RANGE, RefusedTest::lively, x -> x.ask(0, -1));
        refused("ask, the 100th time", STATE, RefusedTest::askedOften, x -> x.ask(0, 99));
    }

    private static void mostAskedAndLeast() {
        refused("mostAsked, box 2", BOUNDS, RefusedTest::lively, x -> x.mostAsked(2));
        refused("mostAsked, none", NONE, RefusedTest::bare, x -> x.mostAsked(0));
        refused("least, box 2", BOUNDS, RefusedTest::lively, x -> x.least(2));
        refused("least, all empty", NONE, RefusedTest::bare, x -> x.least(0));
    }

    private static void worth() {
        refused("worth, box 2", BOUNDS, RefusedTest::lively, x -> x.worth(2, 0, 4));
        refused("worth, slot 10", BOUNDS, RefusedTest::lively, x -> x.worth(0, 10, 4));
        refused("worth, disc 6", BOUNDS, RefusedTest::lively, x -> x.worth(0, 0, 6));
        refused("worth, disc -1", BOUNDS, RefusedTest::lively, x -> x.worth(0, 0, -1));
        refused("worth, box 2, disc of a slot", BOUNDS, RefusedTest::lively, x -> x.worth(2, 0, 0));
        refused("worth, slot 10, disc of a slot", BOUNDS, RefusedTest::lively, x -> x.worth(0, 10, 0));
        refused("worth, slot 10, burnt disc", BOUNDS, RefusedTest::lively, x -> x.worth(0, 10, 3));
        refused("worth, disc of the slot", NOT, RefusedTest::lively, x -> x.worth(0, 0, 0));
        refused("worth, disc of another box", NOT, RefusedTest::lively, x -> x.worth(0, 0, 2));
        refused("worth, burnt disc", NOT, RefusedTest::lively, x -> x.worth(0, 0, 3));
    }

    private static void bestWorth() {
        refused("bestWorth, box 2", BOUNDS, RefusedTest::lively, x -> x.bestWorth(2, 1));
        refused("bestWorth, box 2, 4", BOUNDS, RefusedTest::lively, x -> x.bestWorth(2, 4));
        refused("bestWorth, box -1, -1", BOUNDS, RefusedTest::lively, x -> x.bestWorth(-1, -1));
        refused("bestWorth, 4", RANGE, RefusedTest::lively, x -> x.bestWorth(0, 4));
        refused("bestWorth, -1", RANGE, RefusedTest::lively, x -> x.bestWorth(0, -1));
    }

    private static void sums() {
        refused("wornShare, all burnt", EMPTY, RefusedTest::bare, SelectoRoute::wornShare);
        refused("meanPull, no disc in a box", EMPTY, RefusedTest::bare, SelectoRoute::meanPull);
        refused("wornShare, no disc", EMPTY, SelectoRoute::new, SelectoRoute::wornShare);
        refused("meanPull, no disc", EMPTY, SelectoRoute::new, SelectoRoute::meanPull);
    }

    private static void shows(String what, RouteCall call) {
        SelectoRoute x = lively();
        call.on(x);
        Checks.holds(what + " does not show", !Probe.of(x).equals(Probe.of(lively())));
    }

    /** The probe would see each kind of change, or it could not tell that nothing changed. */
    private static void aCallThatIsTakenShows() {
        shows("a disc", x -> x.addDisc(1, 20, 0));
        shows("a box", x -> x.addBox(0, 0));
        shows("a risk", x -> x.setRisk(0, 8));
        shows("a seed", x -> x.setSeed(99));
        shows("a slug", x -> x.insert(0, 's'));
        shows("a key", x -> x.press(0, 9));
        shows("a play", x -> x.play(0));
        shows("a week", SelectoRoute::pass);
        shows("a visit", x -> x.visit(1));
        shows("a change", x -> x.change(0, 5, -1));
        shows("a needle", x -> x.changeNeedle(0));
        shows("a disc burnt", x -> x.burn(4));
        shows("a song asked for", x -> x.ask(0, 5));
    }
}
