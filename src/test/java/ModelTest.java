import java.util.Random;

/** Long runs of calls, always the same ones, on the class and on the plain model: each answer must be alike. */
public final class ModelTest {
    private static final int RUNS = 1500;
    private static final int CALLS = 512;
    private static final int MOST_AT_START = 3;
    private static final String COINS = "ndqsnndqqsx";

    private final Random random;
    private final SelectoRoute route = new SelectoRoute();
    private final PlainModel model = new PlainModel();
    /** How large a part of the numbers is out of range, how often a week goes by, and the like. */
    private final int wildness;
    private final int haste;

    private ModelTest(int seed) {
        random = new Random(seed);
        wildness = seed % 5;
        haste = 1 + seed % 7;
    }

    public static void main(String[] args) {
        for (int run = 0; run < RUNS; run++) {
            new ModelTest(run).run(run);
        }
        Checks.finish();
    }

    private interface Answer {
        Object give();
    }

    private static Object outcome(Answer answer) {
        try {
            return answer.give();
        } catch (RuntimeException e) {
            String thrower = e.getStackTrace()[0].getClassName();
            return thrower.startsWith("java.") ? thrower + " threw" : e.getClass();
        }
    }

    private void run(int number) {
        start();
        for (int i = 0; i < CALLS - MOST_AT_START; i++) {
            int call = random.nextInt(100);
            int a = box();
            int b = number();
            int c = disc();
            Object got = outcome(() -> onRoute(call, a, b, c));
            Object due = outcome(() -> onModel(call, a, b, c));
            String what = "run " + number + ", row " + i + ", call " + call + " of " + a + ", " + b + ", " + c;
            Checks.holds(what + " answered " + got + ", due is " + due, got.equals(due));
            if (!got.equals(due)) {
                return;
            }
        }
    }

    private void start() {
        if (wildness == 4) {
            return;
        }
        int boxes = 1 + random.nextInt(MOST_AT_START);
        for (int i = 0; i < boxes; i++) {
            int taste = random.nextInt(10);
            int share = random.nextInt(61);
            route.addBox(share, taste);
            model.addBox(share, taste);
        }
    }

    private int box() {
        return random.nextInt(12) < wildness ? random.nextInt(7) - 2 : random.nextInt(Math.max(1, model.boxCount));
    }

    private int number() {
        return random.nextInt(12) < wildness ? random.nextInt(106) - 3 : random.nextInt(10);
    }

    private int disc() {
        return random.nextInt(12) < wildness ? random.nextInt(34) - 3 : random.nextInt(1 + model.discCount) - 1;
    }

    private Object onRoute(int call, int a, int b, int c) {
        switch (kind(call)) {
            case 0: return route.addDisc(b, 10 + b * c % 41, Math.abs(c));
            case 1: return route.addBox(b, c);
            case 2: return route.setRisk(a, b);
            case 3: return route.setSeed(b * 99991 + c);
            case 4: return route.insert(a, coin(b, c));
            case 5: return route.press(a, b);
            case 6: return route.play(a);
            case 7: return route.getCredits(a);
            case 8: return route.getQueued(a);
            case 9: return route.getCents(a);
            case 10: return route.isJammed(a);
            case 11: return route.getWheel(a, b);
            case 12: return route.getNeedle(a);
            case 13: return route.getWear(c);
            case 14: return route.getPlace(c);
            case 15: return route.discAt(a, b);
            case 16: return route.pull(c);
            case 17: return route.pullIn(a, c);
            case 18: return route.pass();
            case 19: return route.getWeek();
            case 20: return route.getMinutes();
            case 21: return route.visit(a);
            case 22: return route.getShort(a);
            case 23: return route.getShare(a);
            case 24: return route.getEarned();
            case 25: return route.change(a, b, c);
            case 26: return route.changeNeedle(a);
            case 27: return route.burn(c);
            case 28: return route.ask(a, b);
            case 29: return route.mostAsked(a);
            case 30: return route.least(a);
            case 31: return route.worth(a, b, c);
            case 32: return route.bestWorth(a, b % 5);
            case 33: return route.wornShare();
            case 34: return route.meanPull();
            case 35: return route.checksum();
            default: return route.isSound();
        }
    }

    private Object onModel(int call, int a, int b, int c) {
        switch (kind(call)) {
            case 0: return model.addDisc(b, 10 + b * c % 41, Math.abs(c));
            case 1: return model.addBox(b, c);
            case 2: return model.setRisk(a, b);
            case 3: return model.setSeed(b * 99991 + c);
            case 4: return model.insert(a, coin(b, c));
            case 5: return model.press(a, b);
            case 6: return model.play(a);
            case 7: return model.ofBox(model.credits, a);
            case 8: return model.queued(a);
            case 9: return model.ofBox(model.cents, a);
            case 10: return model.isJammed(a);
            case 11: return model.wheelAt(a, b);
            case 12: return model.ofBox(model.needle, a);
            case 13: return model.ofDisc(model.wear, c);
            case 14: return model.ofDisc(model.place, c);
            case 15: return model.discAt(a, b);
            case 16: return model.pull(c);
            case 17: return model.pullIn(a, c);
            case 18: return model.pass();
            case 19: return model.week;
            case 20: return model.minutes;
            case 21: return model.visit(a);
            case 22: return model.ofBox(model.lacking, a);
            case 23: return model.ofBox(model.landlord, a);
            case 24: return model.earned;
            case 25: return model.change(a, b, c);
            case 26: return model.changeNeedle(a);
            case 27: return model.burn(c);
            case 28: return model.ask(a, b);
            case 29: return model.mostAsked(a);
            case 30: return model.least(a);
            case 31: return model.worth(a, b, c);
            case 32: return model.bestWorth(a, b % 5);
            case 33: return model.wornShare();
            case 34: return model.meanPull();
            case 35: return model.checksum();
            default: return true;
        }
    }

    private static char coin(int b, int c) {
        return COINS.charAt(Math.floorMod(b + c, COINS.length()));
    }

    /** Numbers from 37 on are more of the calls that move things; most of them ones of the hasty kind's. */
    private int kind(int call) {
        if (call <= 36) {
            return call;
        }
        int[] moving = {0, 0, 4, 4, 5, 5, 5, 6, 6, 6, 21, 21, 25, 25, 25, 28, 32, 35};
        int[] passing = {18, 21, 25, 18};
        return call % 7 < haste ? moving[call % moving.length] : passing[call % passing.length];
    }
}
