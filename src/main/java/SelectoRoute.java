import java.util.ArrayList;
import java.util.Arrays;
import java.util.NoSuchElementException;

/** Jukeboxes on a route, with their discs, coins, keys, weeks, visits and changes. */
public final class SelectoRoute {
    private static final int MOST_DISCS = 30;
    private static final int MOST_BOXES = 4;
    private static final int MOST_CHANGES = 3;
    private static final int SLOTS = 10;
    private static final int SONGS = 100;

    private static final int LAST_WEEK = 99;
    private static final int MOST_STRENGTH = 50;
    private static final int MOST_SHARE = 60;
    private static final int MOST_TASTE = 9;
    private static final int MOST_RISK = 20;
    private static final int MOST_CREDITS = 99;
    private static final int MOST_QUEUED = 8;
    private static final int MOST_ASKED = 99;

    private static final int NO_DISC = -1;
    private static final int NO_TASTE = -1;
    private static final int NO_WEEK = -1;
    private static final int IN_VAN = -1;
    private static final int BURNT = -2;

    private static final int WORN_OUT = 60;
    private static final int NEEDLE_STEP = 40;
    private static final int PULL_PER_GUEST = 8;
    // Below the loss by any slot: a pull stays under 100.
    private static final int NO_LOSS = -1000;
    private static final int PLAY_CENTS = 5;

    private static final int WEEK_MINUTES = 600;
    private static final int VISIT_MINUTES = 40;
    private static final int CHANGE_MINUTES = 10;
    private static final int NEEDLE_MINUTES = 5;

    private static final long SEED_FACTOR = 48271L;
    private static final int SEED_MODULUS = 2147483647;

    private static final Coin[] COINS = Coin.values();

    private final ArrayList<Disc> discs = new ArrayList<>();
    private final ArrayList<Box> boxes = new ArrayList<>();
    // Rows that the search for the best changes uses again at every call.
    private final int[] mostGained = new int[MOST_CHANGES];
    private final int[] leastLost = new int[MOST_CHANGES];
    private int z = 1;
    private int week;
    private int minutes = WEEK_MINUTES;
    private int taken;
    private int earned;

    public SelectoRoute() {
    }

    public int addDisc(int song, int strength, int week) throws IllegalArgumentException, IllegalStateException {
        if (!isWithin(song, 0, SONGS - 1) || !isWithin(strength, 1, MOST_STRENGTH) || !isWithin(week, 0, LAST_WEEK)) {
            throw new IllegalArgumentException("song, strength or week out of range");
        }
        if (discs.size() >= MOST_DISCS) {
            throw new IllegalStateException("no room for another disc");
        }
        Disc disc = new Disc(discs.size(), song, strength, week);
        discs.add(disc);
        return disc.number;
    }

    public int addBox(int share, int taste) throws IllegalArgumentException, IllegalStateException {
        if (!isWithin(share, 0, MOST_SHARE) || !isWithin(taste, 0, MOST_TASTE)) {
            throw new IllegalArgumentException("share or taste out of range");
        }
        if (boxes.size() >= MOST_BOXES) {
            throw new IllegalStateException("no room for another box");
        }
        Box box = new Box(boxes.size(), share, taste);
        boxes.add(box);
        return box.number;
    }

    public int setRisk(int box, int risk) throws IndexOutOfBoundsException, IllegalArgumentException {
        Box it = requireBox(box);
        if (!isWithin(risk, 0, MOST_RISK)) {
            throw new IllegalArgumentException("risk out of range");
        }
        int before = it.risk;
        it.risk = risk;
        return before;
    }

    public int setSeed(int z) throws IllegalArgumentException {
        if (!isWithin(z, 1, SEED_MODULUS - 1)) {
            throw new IllegalArgumentException("seed out of range");
        }
        int before = this.z;
        this.z = z;
        return before;
    }

    public int insert(int box, char coin) throws IndexOutOfBoundsException, IllegalArgumentException,
            UnsupportedOperationException, IllegalStateException {
        Box it = requireBox(box);
        Coin kind = coinOf(coin);
        if (kind == null) {
            throw new IllegalArgumentException("no such coin");
        }
        if (it.jammed) {
            throw new UnsupportedOperationException("the box is jammed");
        }
        if (it.credits + kind.credits > MOST_CREDITS) {
            throw new IllegalStateException("too many credits");
        }
        it.credits += kind.credits;
        it.cents += kind.cents;
        return it.credits;
    }

    public int press(int box, int slot) throws IndexOutOfBoundsException, UnsupportedOperationException,
            IllegalStateException {
        Box it = requireBox(box);
        Slot key = requireSlot(it, slot);
        if (it.credits <= 0 || key.disc == null) {
            throw new UnsupportedOperationException("no credit, or an empty slot");
        }
        if (it.queue.size() >= MOST_QUEUED) {
            throw new IllegalStateException("the queue is full");
        }
        it.credits--;
        it.queue.add(key);
        return it.queue.size();
    }

    public char play(int box) throws IndexOutOfBoundsException, UnsupportedOperationException,
            NoSuchElementException {
        Box it = requireBox(box);
        if (it.jammed) {
            throw new UnsupportedOperationException("the box is jammed");
        }
        if (it.queue.isEmpty()) {
            throw new NoSuchElementException("the queue is empty");
        }
        z = (int) (z * SEED_FACTOR % SEED_MODULUS);
        if (z % 100 < it.risk) {
            it.jammed = true;
            return 'j';
        }
        return it.playNext() ? 'p' : 'b';
    }

    public int getCredits(int box) throws IndexOutOfBoundsException {
        return requireBox(box).credits;
    }

    public int getQueued(int box) throws IndexOutOfBoundsException {
        return requireBox(box).queue.size();
    }

    public int getCents(int box) throws IndexOutOfBoundsException {
        return requireBox(box).cents;
    }

    public boolean isJammed(int box) throws IndexOutOfBoundsException {
        return requireBox(box).jammed;
    }

    public int getWheel(int box, int slot) throws IndexOutOfBoundsException {
        return requireSlot(requireBox(box), slot).wheel;
    }

    public int getNeedle(int box) throws IndexOutOfBoundsException {
        return requireBox(box).needle;
    }

    public int getWear(int disc) throws IndexOutOfBoundsException {
        return requireDisc(disc).wear;
    }

    public int getPlace(int disc) throws IndexOutOfBoundsException {
        Disc it = requireDisc(disc);
        if (it.burnt) {
            return BURNT;
        }
        return it.box == null ? IN_VAN : it.box.number * SLOTS + it.slot;
    }

    public int discAt(int box, int slot) throws IndexOutOfBoundsException, NoSuchElementException {
        Disc disc = requireSlot(requireBox(box), slot).disc;
        if (disc == null) {
            throw new NoSuchElementException("the slot is empty");
        }
        return disc.number;
    }

    public int pull(int disc) throws IndexOutOfBoundsException {
        return requireDisc(disc).pullWhereItIs(week);
    }

    public int pullIn(int box, int disc) throws IndexOutOfBoundsException {
        Box there = requireBox(box);
        return requireDisc(disc).pullFor(there.taste, week);
    }

    public int pass() throws IllegalStateException {
        if (week >= LAST_WEEK) {
            throw new IllegalStateException("it is the last week");
        }
        for (int i = 0; i < boxes.size(); i++) {
            Box box = boxes.get(i);
            if (!box.jammed) {
                box.letGuestsPlay(week);
            }
        }
        week++;
        minutes = WEEK_MINUTES;
        return week;
    }

    public int getWeek() {
        return week;
    }

    public int getMinutes() {
        return minutes;
    }

    public int visit(int box) throws IndexOutOfBoundsException, UnsupportedOperationException {
        Box it = requireBox(box);
        if (it.visitWeek == week || minutes < VISIT_MINUTES) {
            throw new UnsupportedOperationException("already visited, or too few minutes");
        }
        minutes -= VISIT_MINUTES;
        int cents = it.cents;
        int forLandlord = cents * it.share / 100;
        it.settle(forLandlord, week);
        taken += cents;
        earned += cents - forLandlord;
        return cents;
    }

    public int getShort(int box) throws IndexOutOfBoundsException {
        return requireBox(box).lacking;
    }

    public int getShare(int box) throws IndexOutOfBoundsException {
        return requireBox(box).landlordGot;
    }

    public int getEarned() {
        return earned;
    }

    public int change(int box, int slot, int disc) throws IndexOutOfBoundsException, UnsupportedOperationException {
        Box it = requireBox(box);
        Slot place = requireSlot(it, slot);
        Disc coming = disc == NO_DISC ? null : requireDisc(disc);
        if (it.visitWeek != week || coming != null && !coming.isInVan() || minutes < CHANGE_MINUTES) {
            throw new UnsupportedOperationException("not visited, the disc not in the van, or too few minutes");
        }
        minutes -= CHANGE_MINUTES;
        Disc leaving = it.swap(place, coming);
        return leaving == null ? NO_DISC : leaving.number;
    }

    public int changeNeedle(int box) throws IndexOutOfBoundsException, UnsupportedOperationException {
        Box it = requireBox(box);
        if (it.visitWeek != week || minutes < NEEDLE_MINUTES) {
            throw new UnsupportedOperationException("not visited, or too few minutes");
        }
        minutes -= NEEDLE_MINUTES;
        int before = it.needle;
        it.needle = 0;
        return before;
    }

    public int burn(int disc) throws IndexOutOfBoundsException, UnsupportedOperationException {
        Disc it = requireDisc(disc);
        if (!it.isInVan()) {
            throw new UnsupportedOperationException("the disc is not in the van");
        }
        it.burnt = true;
        return it.wear;
    }

    public int ask(int box, int song) throws IndexOutOfBoundsException, IllegalArgumentException,
            IllegalStateException {
        int[] asked = requireBox(box).asked;
        if (song < 0 || song >= asked.length) {
            throw new IllegalArgumentException("no such song");
        }
        if (asked[song] >= MOST_ASKED) {
            throw new IllegalStateException("asked for too often");
        }
        asked[song]++;
        return asked[song];
    }

    public int mostAsked(int box) throws IndexOutOfBoundsException, NoSuchElementException {
        int[] asked = requireBox(box).asked;
        int most = 0;
        int found = -1;
        for (int song = 0; song < asked.length; song++) {
            if (asked[song] > most) {
                most = asked[song];
                found = song;
            }
        }
        if (found < 0) {
            throw new NoSuchElementException("no song is asked for");
        }
        return found;
    }

    public int least(int box) throws IndexOutOfBoundsException, NoSuchElementException {
        Slot found = null;
        for (Slot slot : requireBox(box).slots) {
            if (slot.disc != null && (found == null || slot.wheel < found.wheel)) {
                found = slot;
            }
        }
        if (found == null) {
            throw new NoSuchElementException("all slots are empty");
        }
        return found.number;
    }

    public int worth(int box, int slot, int disc) throws IndexOutOfBoundsException, UnsupportedOperationException {
        Box it = requireBox(box);
        Slot place = requireSlot(it, slot);
        Disc coming = requireDisc(disc);
        if (!coming.isInVan()) {
            throw new UnsupportedOperationException("the disc is not in the van");
        }
        return gainBy(it, place, coming);
    }

    public int bestWorth(int box, int many) throws IndexOutOfBoundsException, IllegalArgumentException {
        Box it = requireBox(box);
        if (!isWithin(many, 0, MOST_CHANGES)) {
            throw new IllegalArgumentException("so many changes are out of range");
        }
        return gainByBest(it, many);
    }

    public float wornShare() throws ArithmeticException {
        int all = 0;
        int worn = 0;
        for (int i = 0; i < discs.size(); i++) {
            Disc disc = discs.get(i);
            if (!disc.burnt) {
                all++;
                worn += disc.isWorn() ? 1 : 0;
            }
        }
        if (all == 0) {
            throw new ArithmeticException("no disc that is not burnt");
        }
        return (float) worn / (float) all;
    }

    public double meanPull() throws ArithmeticException {
        int count = 0;
        int sum = 0;
        for (int i = 0; i < discs.size(); i++) {
            Disc disc = discs.get(i);
            if (disc.box != null) {
                count++;
                sum += disc.pullWhereItIs(week);
            }
        }
        if (count == 0) {
            throw new ArithmeticException("no disc in a box");
        }
        return (double) sum / (double) count;
    }

    public long checksum() {
        long sum = 7;
        for (int i = 0; i < discs.size(); i++) {
            sum = 31 * sum + discs.get(i).wear;
        }
        for (int i = 0; i < boxes.size(); i++) {
            Box box = boxes.get(i);
            sum = 31 * sum + box.cents;
            sum = 31 * sum + box.credits;
            sum = 31 * sum + box.needle;
        }
        sum = 31 * sum + earned;
        return 31 * sum + z;
    }

    public boolean isSound() {
        return hasNoDiscTwice() && hasNoLongQueue() && hasAllCents() && hasNoBetterChange();
    }

    private static boolean isWithin(int number, int low, int high) {
        return number >= low && number <= high;
    }

    private static Coin coinOf(char sign) {
        for (Coin coin : COINS) {
            if (coin.sign == sign) {
                return coin;
            }
        }
        return null;
    }

    private Box requireBox(int number) {
        if (number < 0 || number >= boxes.size()) {
            throw new IndexOutOfBoundsException("no such box");
        }
        return boxes.get(number);
    }

    private Disc requireDisc(int number) {
        if (number < 0 || number >= discs.size()) {
            throw new IndexOutOfBoundsException("no such disc");
        }
        return discs.get(number);
    }

    private static Slot requireSlot(Box box, int number) {
        if (number < 0 || number >= box.slots.length) {
            throw new IndexOutOfBoundsException("no such slot");
        }
        return box.slots[number];
    }

    private int gainBy(Box box, Slot slot, Disc coming) {
        return coming.pullFor(box.taste, week) - slot.pullFor(box.taste, week);
    }

    /**
     * A change gains the pull of its disc and loses the pull of its slot, whichever the two are,
     * so the strongest discs for the weakest slots, pair by pair, are worth most together.
     */
    private int gainByBest(Box box, int many) {
        rankGains(box);
        rankLosses(box);
        int sum = 0;
        for (int i = 0; i < many && i < mostGained.length && i < leastLost.length; i++) {
            sum += Math.max(mostGained[i] + leastLost[i], 0);
        }
        return sum;
    }

    private void rankGains(Box box) {
        // A disc that is lacking counts as one without a pull: no change by it gains anything.
        Arrays.fill(mostGained, 0);
        for (int i = 0; i < discs.size(); i++) {
            Disc disc = discs.get(i);
            if (disc.isInVan()) {
                rank(mostGained, disc.pullFor(box.taste, week));
            }
        }
    }

    private void rankLosses(Box box) {
        Arrays.fill(leastLost, NO_LOSS);
        for (Slot slot : box.slots) {
            rank(leastLost, -slot.pullFor(box.taste, week));
        }
    }

    /** Puts a value into a row that never rises; the least one drops out at its end. */
    private static void rank(int[] row, int value) {
        int rest = value;
        for (int i = 0; i < row.length; i++) {
            if (rest > row[i]) {
                int pushed = row[i];
                row[i] = rest;
                rest = pushed;
            }
        }
    }

    private boolean hasNoDiscTwice() {
        for (int i = 0; i < discs.size(); i++) {
            if (countSlotsWith(discs.get(i)) > 1) {
                return false;
            }
        }
        return true;
    }

    private int countSlotsWith(Disc disc) {
        int count = 0;
        for (int i = 0; i < boxes.size(); i++) {
            for (Slot slot : boxes.get(i).slots) {
                count += slot.disc == disc ? 1 : 0;
            }
        }
        return count;
    }

    private boolean hasNoLongQueue() {
        for (int i = 0; i < boxes.size(); i++) {
            if (boxes.get(i).queue.size() > MOST_QUEUED) {
                return false;
            }
        }
        return true;
    }

    private boolean hasAllCents() {
        int got = earned;
        for (int i = 0; i < boxes.size(); i++) {
            got += boxes.get(i).landlordGot;
        }
        return got == taken;
    }

    private boolean hasNoBetterChange() {
        for (int i = 0; i < boxes.size(); i++) {
            Box box = boxes.get(i);
            int best = gainByBest(box, 1);
            for (Slot slot : box.slots) {
                if (isBeatenIn(box, slot, best)) {
                    return false;
                }
            }
        }
        return true;
    }

    private boolean isBeatenIn(Box box, Slot slot, int best) {
        for (int i = 0; i < discs.size(); i++) {
            Disc disc = discs.get(i);
            if (disc.isInVan() && gainBy(box, slot, disc) > best) {
                return true;
            }
        }
        return false;
    }

    private enum Coin {
        NICKEL('n', 1, 5),
        DIME('d', 2, 10),
        QUARTER('q', 6, 25),
        SLUG('s', 6, 0);

        final int sign;
        final int credits;
        final int cents;

        Coin(int sign, int credits, int cents) {
            this.sign = sign;
            this.credits = credits;
            this.cents = cents;
        }
    }

    private static final class Disc {
        final int number;
        final int song;
        final int strength;
        final int firstWeek;
        int wear;
        boolean burnt;
        // The box and the slot in it, while the disc is in one; otherwise the box is null.
        Box box;
        int slot;

        Disc(int number, int song, int strength, int firstWeek) {
            this.number = number;
            this.song = song;
            this.strength = strength;
            this.firstWeek = firstWeek;
        }

        boolean isInVan() {
            return !burnt && box == null;
        }

        boolean isWorn() {
            return wear >= WORN_OUT;
        }

        int pullFor(int taste, int week) {
            if (burnt || week < firstWeek) {
                return 0;
            }
            int pulled = Math.max(strength - 2 * (week - firstWeek), strength / 5);
            if (song % 10 == taste) {
                pulled += pulled / 2;
            }
            return Math.max(pulled - wear / 10, 0);
        }

        int pullWhereItIs(int week) {
            return pullFor(box == null ? NO_TASTE : box.taste, week);
        }
    }

    private static final class Slot {
        final int number;
        Disc disc;
        int wheel;

        Slot(int number) {
            this.number = number;
        }

        int pullFor(int taste, int week) {
            return disc == null ? 0 : disc.pullFor(taste, week);
        }
    }

    private static final class Box {
        final int number;
        final int share;
        final int taste;
        final Slot[] slots = new Slot[SLOTS];
        final ArrayList<Slot> queue = new ArrayList<>();
        final int[] asked = new int[SONGS];
        int risk;
        int credits;
        int cents;
        int needle;
        boolean jammed;
        int visitWeek = NO_WEEK;
        int playsSinceVisit;
        int lacking;
        int landlordGot;

        Box(int number, int share, int taste) {
            this.number = number;
            this.share = share;
            this.taste = taste;
            for (int i = 0; i < slots.length; i++) {
                slots[i] = new Slot(i);
            }
        }

        /** Plays the first slot of the queue, or gives its credit back: true if it played. */
        boolean playNext() {
            if (queue.isEmpty()) {
                return false;
            }
            Slot slot = queue.remove(0);
            if (slot.disc == null || slot.disc.isWorn()) {
                credits++;
                return false;
            }
            playDisc(slot, slot.disc, 1);
            return true;
        }

        void letGuestsPlay(int week) {
            for (Slot slot : slots) {
                Disc disc = slot.disc;
                if (disc != null && !disc.isWorn()) {
                    int times = disc.pullFor(taste, week) / PULL_PER_GUEST;
                    cents += PLAY_CENTS * times;
                    playDisc(slot, disc, times);
                }
            }
        }

        private void playDisc(Slot slot, Disc disc, int times) {
            slot.wheel += times;
            disc.wear += times * (1 + needle / NEEDLE_STEP);
            needle += times;
            playsSinceVisit += times;
        }

        void settle(int forLandlord, int week) {
            lacking = PLAY_CENTS * playsSinceVisit - cents;
            landlordGot += forLandlord;
            cents = 0;
            playsSinceVisit = 0;
            jammed = false;
            visitWeek = week;
        }

        /** Puts a disc, or none, into a slot, and answers the one that was there, or null. */
        Disc swap(Slot slot, Disc coming) {
            Disc leaving = slot.disc;
            if (leaving != null) {
                leaving.box = null;
            }
            slot.disc = coming;
            slot.wheel = 0;
            if (coming != null) {
                coming.box = this;
                coming.slot = slot.number;
                forget(coming.song);
            }
            return leaving;
        }

        private void forget(int song) {
            if (song >= 0 && song < asked.length) {
                asked[song] = 0;
            }
        }
    }
}
