import java.util.Arrays;

/**
 * An interval signal and the one that answers in its gaps, as ../shared/DOC.md promises it.
 *
 * Every row that a call works on is made with the object and used again by each call, because all
 * that a run makes is counted: no call makes an object.
 */
public final class IntervalSignal {

    public static final int NONE = -1;

    private static final int NO_SUCH = -2;
    private static final int BELOW_ZERO = -3;
    private static final int FAULTY = -4;
    private static final int NOT_NOW = -5;
    private static final int HAS_NOTHING = -6;
    private static final int BEYOND_ROW = -7;
    private static final int OTHER_WIDTH = -8;
    private static final int NO_SOUND = -1_000;
    private static final int NO_CLOCK = -1_000_000;

    private static final int LAST_STEP = 60;
    private static final int STEPS = LAST_STEP + 1;
    private static final int LAST_PLAN_STEP = 40;
    private static final int LAST_CHANCE_STEP = 17;
    private static final int FARTHEST = 2_000_000_000;
    private static final int LARGEST_SEED = 2_000_000_000;
    private static final int MOST_TONES = 9;
    private static final int MOST_ODDS = 10;
    private static final int MOST_SIGNS = 8;
    private static final int MOST_POSTS = 5;
    private static final int MOST_ACTS = 30;
    private static final int PLACES = 100;
    private static final int LAST_MINUTE = 999;
    private static final int TAPE_BYTES = 500;
    private static final int FEED_BYTES = 20;
    private static final int SLOTS = 4;
    private static final int LAST_WIDTH = 3;
    private static final int ROW_NUMBERS = 60;
    private static final int IMAGES = 3;
    private static final int LOUDEST = 3;

    private final Tape tape;
    private final Reader reader;
    private final Station now;
    private final Station trial;
    private final Station[] images;
    private final boolean[] imageKept;
    private final Slot[] slots;
    private final Night night;
    private final Night otherNight;
    private final Circle circle;
    private final Words words;
    private final LawSearch lawSearch;
    private final PlaceSearch placeSearch;
    private final DrawnNight drawnNight;

    public IntervalSignal() {
        tape = new Tape();
        reader = new Reader();
        now = new Station();
        trial = new Station();
        images = new Station[IMAGES];
        for (int k = 0; k < IMAGES; k++) {
            images[k] = new Station();
        }
        imageKept = new boolean[IMAGES];
        slots = new Slot[SLOTS];
        for (int k = 0; k < SLOTS; k++) {
            slots[k] = new Slot();
        }
        night = new Night();
        otherNight = new Night();
        circle = new Circle();
        words = new Words();
        lawSearch = new LawSearch();
        placeSearch = new PlaceSearch();
        drawnNight = new DrawnNight();
    }

    // ---- the tape and the station told on it

    public int feed(int a, int b, int c, int d, int e) {
        if (tape.size() + FEED_BYTES > TAPE_BYTES) {
            return NONE;
        }
        tape.add(a);
        tape.add(b);
        tape.add(c);
        tape.add(d);
        tape.add(e);
        return tape.size();
    }

    public int end(int n) {
        if (outside(n, 0, tape.size())) {
            return NONE;
        }
        tape.cut(n);
        return n;
    }

    public int station() {
        reader.read(tape);
        if (reader.faultKind() != 0) {
            return FAULTY;
        }
        now.copyFrom(reader.draft());
        tape.cut(0);
        return now.lines();
    }

    public int fault(int what) {
        switch (what) {
            case 0:
                return reader.faultKind();
            case 1:
                return reader.faultPlace();
            default:
                return NONE;
        }
    }

    public int sign(int sign) {
        return outside(sign, 0, now.signCount() - 1) ? NO_SUCH : now.signTold(sign);
    }

    public int post(int post) {
        return outside(post, 0, now.postCount() - 1) ? NO_SUCH : now.postPlace(post);
    }

    // ---- the night as it is heard, acts as now

    public int heard(int step) {
        return noStep(step) ? NO_SUCH : tonight().heardAt(step);
    }

    public int last(int step) {
        return noStep(step) ? NO_SUCH : tonight().lastAhead(step);
    }

    public int answer(int step) {
        return noStep(step) ? NO_SUCH : tonight().answerAhead(step);
    }

    public int gaps(int step) {
        if (noStep(step)) {
            return NO_SUCH;
        }
        int found = 0;
        for (int n = 0; n <= step && n < STEPS; n++) {
            if (now.isGap(n)) {
                found++;
            }
        }
        return found;
    }

    public int pips(int step) {
        return noStep(step) ? NO_SUCH : tonight().pipsTo(step);
    }

    public int wed() {
        return noStation() ? NO_SUCH : tonight().stepOfPip(0);
    }

    public int first(int tone) {
        return noTone(tone) ? NO_SUCH : tonight().firstStepOf(tone);
    }

    public int often(int tone, int step) {
        return noTone(tone) || noStep(step) ? NO_SUCH : tonight().timesHeard(tone, step);
    }

    public int all(int step) {
        return noStep(step) ? NO_SUCH : tonight().tonesTo(step);
    }

    public int most() {
        if (noStation()) {
            return NO_SUCH;
        }
        Night heardNow = tonight();
        int best = NONE;
        int bestTimes = 0;
        for (int tone = 0; tone < now.tones(); tone++) {
            int times = heardNow.timesHeard(tone, LAST_STEP);
            if (times > bestTimes) {
                best = tone;
                bestTimes = times;
            }
        }
        return best;
    }

    public int held() {
        return noStation() ? NO_SUCH : tonight().longestHeld();
    }

    public int rises() {
        return noStation() ? NO_SUCH : tonight().pairsThatMove(1);
    }

    public int unlike(int step) {
        return noStep(step) ? NO_SUCH : Integer.bitCount(tonight().tonesTo(step));
    }

    public int falls() {
        return noStation() ? NO_SUCH : tonight().pairsThatMove(-1);
    }

    public int leap() {
        return noStation() ? NO_SUCH : tonight().greatestLeap();
    }

    public int when(int k) {
        return noStation() || outside(k, 0, LAST_STEP) ? NO_SUCH : tonight().stepOfPip(k);
    }

    public int echo(int step) {
        return noStep(step) ? NO_SUCH : tonight().lastStepAlike(step);
    }

    public int cool() {
        return noStation() ? NO_SUCH : tonight().longestWithoutPip();
    }

    public int clock(int n, int per) {
        if (noStation() || outside(n, 0, 999) || outside(per, -50, 50)) {
            return NO_CLOCK;
        }
        Night heardNow = tonight();
        int right = 0;
        for (int step = 0; step <= n && step < STEPS; step++) {
            if (heardNow.isPip(step)) {
                right = step;
            }
        }
        return (n - right) * per;
    }

    // ---- the night if something were otherwise

    public int shift(int step, int tone) {
        return noStep(step) || noTone(tone) ? NO_SUCH : unlikeSteps(step, tone);
    }

    public int heals(int step, int tone) {
        if (noStep(step) || noTone(tone)) {
            return NO_SUCH;
        }
        Night heardNow = tonight();
        Night heardThen = nightWith(step, tone);
        int healed = NONE;
        for (int n = LAST_STEP; n > step && heardThen.heardAt(n) == heardNow.heardAt(n); n--) {
            healed = n;
        }
        return healed;
    }

    public int worst(int step) {
        if (noStep(step)) {
            return NO_SUCH;
        }
        int worstTone = NONE;
        int mostSteps = 0;
        for (int tone = 0; tone < now.tones(); tone++) {
            int steps = unlikeSteps(step, tone);
            if (steps > mostSteps) {
                worstTone = tone;
                mostSteps = steps;
            }
        }
        return worstTone;
    }

    public int sooner(int step, int tone) {
        return noStep(step) || noTone(tone) ? NO_SUCH : nightWith(step, tone).stepOfPip(0);
    }

    public int pretty() {
        if (noStation()) {
            return NO_SUCH;
        }
        lawSearch.searchPips(now);
        return lawSearch.prettiest();
    }

    public int silent() {
        if (noStation()) {
            return NO_SUCH;
        }
        lawSearch.searchPips(now);
        return lawSearch.silentLaws();
    }

    public int tuned() {
        if (noStation()) {
            return NO_SUCH;
        }
        trial.copyFrom(now);
        int best = NONE;
        int soonest = STEPS;
        for (int c = 0; c < now.tones(); c++) {
            trial.setC(c);
            otherNight.hear(trial, LAST_STEP);
            int step = otherNight.stepOfPip(0);
            if (step != NONE && step < soonest) {
                best = c;
                soonest = step;
            }
        }
        return best;
    }

    // ---- where it goes round

    public int settles() {
        if (noStation()) {
            return NO_SUCH;
        }
        circle.goRound(now);
        return circle.from();
    }

    public int round() {
        if (noStation()) {
            return NO_SUCH;
        }
        circle.goRound(now);
        return circle.steps();
    }

    public int births() {
        if (noStation()) {
            return NO_SUCH;
        }
        circle.goRound(now);
        return circle.pipsInside();
    }

    public int far(int n) {
        if (noStation() || outside(n, 0, FARTHEST)) {
            return NO_SUCH;
        }
        circle.goRound(now);
        return circle.toneAt(n);
    }

    // ---- plans of words

    public int reach(int step) {
        return noPlanStep(step) ? NO_SUCH : words.tonesReached(now, step);
    }

    public int needs(int step, int tone) {
        return noPlanStep(step) || noTone(tone) ? NO_SUCH : words.fewestTo(now, step, tone, false);
    }

    public int plan(int step, int tone, int i) {
        if (noPlanStep(step) || noTone(tone) || noPlanStep(i)) {
            return NO_SUCH;
        }
        return words.spokenByPlan(now, step, tone, i);
    }

    public int quietly(int step, int tone) {
        return noPlanStep(step) || noTone(tone) ? NO_SUCH : words.fewestTo(now, step, tone, true);
    }

    public int mend(int step, int tone) {
        if (noPlanStep(step) || noTone(tone)) {
            return NO_SUCH;
        }
        trial.copyFrom(now);
        trial.acts().clear();
        otherNight.hear(trial, LAST_STEP);
        return words.fewestToMend(now, otherNight, step, tone);
    }

    // ---- by which law it answers

    public int laws(int slot) {
        int trouble = lawTrouble(slot);
        if (trouble != 0) {
            return trouble;
        }
        lawSearch.searchFitting(now, slots[slot], false);
        return lawSearch.howMany();
    }

    public int law(int slot) {
        int trouble = lawTrouble(slot);
        if (trouble != 0) {
            return trouble;
        }
        lawSearch.searchFitting(now, slots[slot], false);
        return lawSearch.firstFitting();
    }

    public int ask(int slot) {
        int trouble = lawTrouble(slot);
        if (trouble != 0) {
            return trouble;
        }
        lawSearch.searchFitting(now, slots[slot], true);
        return lawSearch.stepToAsk();
    }

    public int leaves(int slot) {
        int trouble = lawTrouble(slot);
        if (trouble != 0) {
            return trouble;
        }
        lawSearch.searchFitting(now, slots[slot], true);
        return lawSearch.leftAtWorst(lawSearch.stepToAsk());
    }

    // ---- where it is

    public int spread(int place) {
        if (noStation() || outside(place, 0, PLACES - 1)) {
            return NO_SUCH;
        }
        if (now.postCount() == 0) {
            return NONE;
        }
        int longest = 0;
        int shortest = PLACES;
        for (int k = 0; k < now.postCount(); k++) {
            int way = now.wayToPost(place, k);
            longest = Math.max(longest, way);
            shortest = Math.min(shortest, way);
        }
        return longest - shortest;
    }

    public int blind() {
        if (noStation()) {
            return NO_SUCH;
        }
        int pairs = 0;
        for (int x = 0; x < PLACES; x++) {
            for (int y = x + 1; y < PLACES; y++) {
                if (now.soundsAlikeFrom(x, y)) {
                    pairs++;
                }
            }
        }
        return pairs;
    }

    public int places(int slot) {
        int trouble = placeTrouble(slot);
        if (trouble != 0) {
            return trouble;
        }
        placeSearch.searchFitting(now, slots[slot]);
        return placeSearch.howMany();
    }

    public int place(int slot) {
        int trouble = placeTrouble(slot);
        if (trouble != 0) {
            return trouble;
        }
        placeSearch.searchFitting(now, slots[slot]);
        return placeSearch.least();
    }

    public int farther(int slot) {
        int trouble = placeTrouble(slot);
        if (trouble != 0) {
            return trouble;
        }
        placeSearch.searchFitting(now, slots[slot]);
        return placeSearch.greatest();
    }

    public int set(int slot) {
        int trouble = placeTrouble(slot);
        if (trouble != 0) {
            return trouble;
        }
        // Without a number the minute of sending is unknown, so a new post's minute tells nothing.
        if (slots[slot].size() == 0) {
            return NO_SUCH;
        }
        placeSearch.searchFitting(now, slots[slot]);
        return placeSearch.whereToSet();
    }

    // ---- of which two a pip came

    public int parents(int tone) {
        if (noTone(tone)) {
            return NO_SUCH;
        }
        int pairs = 0;
        for (int i = 0; i < now.signCount(); i++) {
            for (int j = i + 1; j < now.signCount(); j++) {
                if (now.areParents(i, j, tone)) {
                    pairs++;
                }
            }
        }
        return pairs;
    }

    public int parent(int tone) {
        if (noTone(tone)) {
            return NO_SUCH;
        }
        for (int i = 0; i < now.signCount(); i++) {
            for (int j = i + 1; j < now.signCount(); j++) {
                if (now.areParents(i, j, tone)) {
                    return 10 * i + j;
                }
            }
        }
        return NONE;
    }

    // ---- two who sound louder

    public int rests() {
        int pairs = 0;
        for (int x = 0; x <= LOUDEST; x++) {
            for (int y = 0; y <= LOUDEST; y++) {
                if (noneBetter(x, y) && noneBetter(y, x)) {
                    pairs++;
                }
            }
        }
        return pairs;
    }

    public int sounds(int x, int y) {
        return outside(x, 0, LOUDEST) || outside(y, 0, LOUDEST) ? NO_SOUND : reward(x, y);
    }

    public int best(int y) {
        if (outside(y, 0, LOUDEST)) {
            return NO_SUCH;
        }
        int bestLoudness = 0;
        for (int x = 1; x <= LOUDEST; x++) {
            if (reward(x, y) > reward(bestLoudness, y)) {
                bestLoudness = x;
            }
        }
        return bestLoudness;
    }

    // ---- answers lost by chance

    public long chance(int step, int what) {
        if (noStation() || outside(step, 0, LAST_CHANCE_STEP) || outside(what, 0, 1)) {
            return NO_SUCH;
        }
        int kept = MOST_ODDS - now.odds();
        int common = commonDivisor(kept, MOST_ODDS);
        if (common <= 0) {
            return NO_SUCH;
        }
        int gapsAtRisk = now.gapsAtRisk(step);
        return what == 0 ? power(kept / common, gapsAtRisk) : power(MOST_ODDS / common, gapsAtRisk);
    }

    public int sure(int p) {
        if (noStation() || outside(p, 0, 100)) {
            return NO_SUCH;
        }
        for (int step = LAST_CHANCE_STEP; step >= 0; step--) {
            if (chanceIsAtLeast(p, now.gapsAtRisk(step))) {
                return step;
            }
        }
        return NONE;
    }

    public int drawn(int seed, int step, int what) {
        if (noStep(step) || outside(seed, 0, LARGEST_SEED) || outside(what, 0, 2)) {
            return NO_SUCH;
        }
        drawnNight.draw(now, seed, step);
        switch (what) {
            case 0:
                return drawnNight.toneAtEnd();
            case 1:
                return drawnNight.answersLost();
            default:
                return drawnNight.answerBehind();
        }
    }

    public int luck(int seed, int n, int step, int tone) {
        if (noStep(step) || noTone(tone) || outside(seed, 0, LARGEST_SEED) || outside(n, 1, 20)) {
            return NO_SUCH;
        }
        int found = 0;
        for (int k = 0; k < n; k++) {
            drawnNight.draw(now, seed + k, step);
            if (drawnNight.toneAtEnd() == tone) {
                found++;
            }
        }
        return found;
    }

    // ---- words spoken over it

    public int speak(int step, int tone) {
        if (noStep(step) || (tone != NONE && noTone(tone))) {
            return NO_SUCH;
        }
        if (now.acts().size() >= MOST_ACTS) {
            return NOT_NOW;
        }
        int before = now.acts().overStep(step);
        now.acts().add(step, tone);
        return before;
    }

    public int spoken(int step) {
        return noStep(step) ? NO_SUCH : now.acts().overStep(step);
    }

    public int undo() {
        if (noStation()) {
            return NO_SUCH;
        }
        if (now.acts().size() == 0) {
            return NOT_NOW;
        }
        now.acts().takeBack();
        return now.acts().size();
    }

    public int anew() {
        if (noStation()) {
            return NO_SUCH;
        }
        int before = now.acts().size();
        now.acts().clear();
        return before;
    }

    public int tune(int n) {
        if (noTone(n)) {
            return NO_SUCH;
        }
        if (now.acts().size() > 0) {
            return NOT_NOW;
        }
        int before = now.c();
        now.setC(n);
        return before;
    }

    // ---- what there is, and images of it

    public int count(int what) {
        switch (what) {
            case 0:
                return now.tones();
            case 1:
                return now.a();
            case 2:
                return now.b();
            case 3:
                return now.c();
            case 4:
                return now.d();
            case 5:
                return now.odds();
            case 6:
                return now.signCount();
            case 7:
                return now.postCount();
            case 8:
                return now.acts().size();
            case 9:
                return now.lines();
            case 10:
                return tape.size();
            case 11:
                return slotsWithRow();
            default:
                return NONE;
        }
    }

    public int image(int k) {
        if (outside(k, 0, IMAGES - 1)) {
            return NO_SUCH;
        }
        images[k].copyFrom(now);
        imageKept[k] = true;
        return 0;
    }

    public int back(int k) {
        if (outside(k, 0, IMAGES - 1)) {
            return NO_SUCH;
        }
        if (!imageKept[k]) {
            return HAS_NOTHING;
        }
        now.copyFrom(images[k]);
        return 0;
    }

    // ---- rows of numbers

    public int row(int slot, int width, int n) {
        if (noSlot(slot) || outside(width, 0, LAST_WIDTH) || n > ROW_NUMBERS) {
            return NO_SUCH;
        }
        if (n < 0) {
            return BELOW_ZERO;
        }
        slots[slot].make(width, n);
        return 0;
    }

    public int write(int slot, int i, long v) {
        if (noSlot(slot)) {
            return NO_SUCH;
        }
        Slot written = slots[slot];
        if (!written.hasRow()) {
            return HAS_NOTHING;
        }
        if (outside(i, 0, written.size() - 1)) {
            return BEYOND_ROW;
        }
        written.put(i, v);
        return 0;
    }

    public int paste(int slot, int i, int to, int k, int n) {
        if (noSlot(slot) || noSlot(to)) {
            return NO_SUCH;
        }
        Slot source = slots[slot];
        Slot target = slots[to];
        if (!source.hasRow() || !target.hasRow()) {
            return HAS_NOTHING;
        }
        if (source.width() != target.width()) {
            return OTHER_WIDTH;
        }
        if (!source.holds(i, n) || !target.holds(k, n)) {
            return BEYOND_ROW;
        }
        target.copyFrom(source, i, k, n);
        return 0;
    }

    // ---- what the calls ask first

    private static boolean outside(long v, long low, long high) {
        return v < low || v > high;
    }

    private boolean noStation() {
        return now.lines() == 0;
    }

    private boolean noStep(int step) {
        return noStation() || outside(step, 0, LAST_STEP);
    }

    private boolean noPlanStep(int step) {
        return noStation() || outside(step, 0, LAST_PLAN_STEP);
    }

    private boolean noTone(int tone) {
        return noStation() || outside(tone, 0, now.tones() - 1);
    }

    private static boolean noSlot(int slot) {
        return outside(slot, 0, SLOTS - 1);
    }

    private int lawTrouble(int slot) {
        return pairTrouble(slot, LAST_STEP, now.tones() - 1);
    }

    private int placeTrouble(int slot) {
        return pairTrouble(slot, now.postCount() - 1, LAST_MINUTE);
    }

    /** 0 if the slot's row is of pairs from 0 to these, else what the call answers. */
    private int pairTrouble(int slot, int highestFirst, int highestSecond) {
        if (noSlot(slot) || noStation()) {
            return NO_SUCH;
        }
        Slot asked = slots[slot];
        if (!asked.hasRow()) {
            return HAS_NOTHING;
        }
        if (asked.size() % 2 != 0) {
            return NO_SUCH;
        }
        for (int i = 0; i < asked.size(); i += 2) {
            if (outside(asked.at(i), 0, highestFirst) || outside(asked.at(i + 1), 0, highestSecond)) {
                return NO_SUCH;
            }
        }
        return 0;
    }

    // ---- what several calls share

    private Night tonight() {
        night.hear(now, LAST_STEP);
        return night;
    }

    /** The night with one word more than now. */
    private Night nightWith(int step, int tone) {
        trial.copyFrom(now);
        trial.acts().putOver(step, tone);
        otherNight.hear(trial, LAST_STEP);
        return otherNight;
    }

    private int unlikeSteps(int step, int tone) {
        Night heardNow = tonight();
        Night heardThen = nightWith(step, tone);
        int found = 0;
        for (int n = 0; n < STEPS; n++) {
            if (heardNow.heardAt(n) != heardThen.heardAt(n)) {
                found++;
            }
        }
        return found;
    }

    private int slotsWithRow() {
        int found = 0;
        for (int k = 0; k < SLOTS; k++) {
            if (slots[k].hasRow()) {
                found++;
            }
        }
        return found;
    }

    /** What one who sounds own has, if the other one sounds that loud. */
    private static int reward(int own, int others) {
        int prize = own > others ? 10 : own == others ? 4 : 0;
        return prize - own * own;
    }

    private static boolean noneBetter(int own, int others) {
        for (int another = 0; another <= LOUDEST; another++) {
            if (reward(another, others) > reward(own, others)) {
                return false;
            }
        }
        return true;
    }

    private static int commonDivisor(int x, int y) {
        for (int divisor = y; divisor > 1; divisor--) {
            if (x % divisor == 0 && y % divisor == 0) {
                return divisor;
            }
        }
        return 1;
    }

    private static long power(int base, int times) {
        long product = 1;
        for (int k = 0; k < times; k++) {
            product *= base;
        }
        return product;
    }

    /** Both sides lose two tens where they have them: a hundred times 10^18 is no long. */
    private boolean chanceIsAtLeast(int p, int gapsAtRisk) {
        long above = power(MOST_ODDS - now.odds(), gapsAtRisk);
        if (gapsAtRisk >= 2) {
            return above >= p * power(MOST_ODDS, gapsAtRisk - 2);
        }
        return above * 100 >= p * power(MOST_ODDS, gapsAtRisk);
    }

    /** The bytes that came and are not yet a station. */
    private static final class Tape {
        private static final int NO_BYTE = -1;

        private final byte[] bytes = new byte[TAPE_BYTES];
        private int length;

        int size() {
            return length;
        }

        void add(int number) {
            for (int bits = 24; bits >= 0; bits -= 8) {
                if (length < bytes.length) {
                    bytes[length] = (byte) (number >> bits);
                    length++;
                }
            }
        }

        void cut(int n) {
            if (n >= 0 && n <= length) {
                length = n;
            }
        }

        int byteAt(int i) {
            return i >= 0 && i < length ? bytes[i] & 255 : NO_BYTE;
        }
    }

    /** Reads a tape into a draft, so that a fault leaves the station as it was. */
    private static final class Reader {
        private static final int AT_END = 0;
        private static final int WORD = 1;
        private static final int NUMBER = 2;
        private static final int LINE_END = 3;
        private static final int NO_TOKEN = 4;

        private static final int MISPLACED = 1;
        private static final int OUT_OF_BOUNDS = 2;
        private static final int TOO_MANY = 3;

        /** Above every bound: a longer number stays above it, whatever digits follow. */
        private static final int LARGE = 1_000;

        private final Station draft = new Station();
        private int kind;
        private int start;
        private int behind;
        private int number;
        private int fault;
        private int faultAt = NONE;

        int faultKind() {
            return fault;
        }

        int faultPlace() {
            return faultAt;
        }

        Station draft() {
            return draft;
        }

        void read(Tape tape) {
            draft.clear();
            fault = 0;
            faultAt = NONE;
            behind = 0;
            nextToken(tape);
            for (int line = 0; line <= TAPE_BYTES && fault == 0 && kind != AT_END; line++) {
                readLine(tape);
            }
        }

        private void readLine(Tape tape) {
            if (draft.lines() == 0) {
                readHead(tape);
            } else if (isWord(tape, "note")) {
                readNote(tape);
            } else if (isWord(tape, "gap")) {
                readGap(tape);
            } else if (isWord(tape, "post")) {
                readPost(tape);
            } else {
                fail(MISPLACED);
            }
            if (kind != LINE_END) {
                fail(MISPLACED);
            }
            if (fault == 0) {
                draft.addLine();
                nextToken(tape);
            }
        }

        private void readHead(Tape tape) {
            takeWord(tape, "station");
            takeWord(tape, "tones");
            int tones = takeNumber(tape, 2, MOST_TONES);
            takeWord(tape, "a");
            int a = takeNumber(tape, 0, tones - 1);
            takeWord(tape, "b");
            int b = takeNumber(tape, 0, tones - 1);
            takeWord(tape, "c");
            int c = takeNumber(tape, 0, tones - 1);
            takeWord(tape, "d");
            int d = takeNumber(tape, 0, tones - 1);
            takeWord(tape, "odds");
            int odds = takeNumber(tape, 0, MOST_ODDS);
            if (fault == 0) {
                draft.setHead(tones, d, odds);
                draft.setLaw(a, b, c);
            }
        }

        private void readNote(Tape tape) {
            if (draft.signCount() >= MOST_SIGNS) {
                fail(TOO_MANY);
            }
            takeWord(tape, "note");
            int tone = takeNumber(tape, 0, draft.tones() - 1);
            if (fault == 0) {
                draft.addSign(tone);
            }
        }

        private void readGap(Tape tape) {
            if (draft.signCount() >= MOST_SIGNS) {
                fail(TOO_MANY);
            }
            takeWord(tape, "gap");
            if (fault == 0) {
                draft.addSign(NONE);
            }
        }

        private void readPost(Tape tape) {
            if (draft.postCount() >= MOST_POSTS) {
                fail(TOO_MANY);
            }
            takeWord(tape, "post");
            takeWord(tape, "at");
            int place = takeNumber(tape, 0, PLACES - 1);
            if (fault == 0) {
                draft.addPost(place);
            }
        }

        private int takeNumber(Tape tape, int low, int high) {
            if (kind != NUMBER) {
                fail(MISPLACED);
            } else if (outside(number, low, high)) {
                fail(OUT_OF_BOUNDS);
            }
            int taken = number;
            if (fault == 0) {
                nextToken(tape);
            }
            return taken;
        }

        private void takeWord(Tape tape, String name) {
            if (!isWord(tape, name)) {
                fail(MISPLACED);
            }
            if (fault == 0) {
                nextToken(tape);
            }
        }

        /** Tokens are read as they stand, so that the fault found first is the first by its place. */
        private void fail(int why) {
            if (fault == 0) {
                fault = why;
                faultAt = start;
            }
        }

        private boolean isWord(Tape tape, String name) {
            if (kind != WORD || behind - start != name.length()) {
                return false;
            }
            for (int i = 0; i < name.length(); i++) {
                if (tape.byteAt(start + i) != name.charAt(i)) {
                    return false;
                }
            }
            return true;
        }

        private void nextToken(Tape tape) {
            start = behind;
            while (start < TAPE_BYTES && isBlank(tape.byteAt(start))) {
                start++;
            }
            behind = start;
            int sign = tape.byteAt(start);
            if (sign == Tape.NO_BYTE) {
                kind = AT_END;
            } else if (isLetter(sign)) {
                readWord(tape);
            } else if (isDigit(sign)) {
                readNumber(tape);
            } else {
                kind = sign == ';' ? LINE_END : NO_TOKEN;
                behind++;
            }
        }

        private void readWord(Tape tape) {
            kind = WORD;
            while (behind < TAPE_BYTES && isLetter(tape.byteAt(behind))) {
                behind++;
            }
        }

        private void readNumber(Tape tape) {
            kind = NUMBER;
            number = 0;
            while (behind < TAPE_BYTES && isDigit(tape.byteAt(behind))) {
                if (number < LARGE) {
                    number = number * 10 + tape.byteAt(behind) - '0';
                }
                behind++;
            }
        }

        private static boolean isBlank(int sign) {
            return sign == ' ' || sign == '\n';
        }

        private static boolean isLetter(int sign) {
            return sign >= 'a' && sign <= 'z';
        }

        private static boolean isDigit(int sign) {
            return sign >= '0' && sign <= '9';
        }
    }

    /** A station as it was told, and what is spoken over it: what an image keeps. */
    private static final class Station {
        private int tones;
        private int a;
        private int b;
        private int c;
        private int d;
        private int odds;
        private int lines;
        private final int[] signs = new int[MOST_SIGNS];
        private int signCount;
        private final int[] posts = new int[MOST_POSTS];
        private int postCount;
        private final Acts acts = new Acts();

        int tones() {
            return tones;
        }

        int a() {
            return a;
        }

        int b() {
            return b;
        }

        int c() {
            return c;
        }

        int d() {
            return d;
        }

        int odds() {
            return odds;
        }

        int lines() {
            return lines;
        }

        int signCount() {
            return signCount;
        }

        int postCount() {
            return postCount;
        }

        Acts acts() {
            return acts;
        }

        void clear() {
            setHead(0, 0, 0);
            setLaw(0, 0, 0);
            lines = 0;
            signCount = 0;
            postCount = 0;
            acts.clear();
        }

        void copyFrom(Station other) {
            setHead(other.tones, other.d, other.odds);
            setLaw(other.a, other.b, other.c);
            lines = other.lines;
            signCount = other.signCount;
            System.arraycopy(other.signs, 0, signs, 0, MOST_SIGNS);
            postCount = other.postCount;
            System.arraycopy(other.posts, 0, posts, 0, MOST_POSTS);
            acts.copyFrom(other.acts);
        }

        void setHead(int newTones, int newD, int newOdds) {
            tones = newTones;
            d = newD;
            odds = newOdds;
        }

        void setLaw(int newA, int newB, int newC) {
            a = newA;
            b = newB;
            c = newC;
        }

        void setC(int newC) {
            c = newC;
        }

        void addLine() {
            lines++;
        }

        /** A note's tone, or NONE for a gap. */
        void addSign(int told) {
            if (signCount < signs.length) {
                signs[signCount] = told;
                signCount++;
            }
        }

        void addPost(int place) {
            if (postCount < posts.length) {
                posts[postCount] = place;
                postCount++;
            }
        }

        int signTold(int i) {
            return i >= 0 && i < signCount ? signs[i] : NONE;
        }

        int postPlace(int i) {
            return i >= 0 && i < postCount ? posts[i] : 0;
        }

        int wayToPost(int place, int i) {
            return Math.abs(place - postPlace(i));
        }

        /** Only how much later the posts hear it tells of the place: when it was sent is not known. */
        boolean soundsAlikeFrom(int x, int y) {
            for (int k = 1; k < postCount; k++) {
                int laterFromX = wayToPost(x, k) - wayToPost(x, 0);
                int laterFromY = wayToPost(y, k) - wayToPost(y, 0);
                if (laterFromX != laterFromY) {
                    return false;
                }
            }
            return true;
        }

        boolean areParents(int i, int j, int tone) {
            int one = signTold(i);
            int other = signTold(j);
            if (one == NONE || other == NONE || one == other || tones <= 0) {
                return false;
            }
            return (one + other) % tones == tone;
        }

        int signNumber(int step) {
            return signCount > 0 && step >= 0 ? step % signCount : NONE;
        }

        boolean isGap(int step) {
            return signCount > 0 && step >= 0 && signs[step % signCount] == NONE;
        }

        /** What is heard if nothing is spoken there; NONE without signs. */
        int ownTone(int step, int last, int answer) {
            if (signCount <= 0 || tones <= 0 || step < 0) {
                return NONE;
            }
            int told = signs[step % signCount];
            int sum = told == NONE ? a * last + b * answer + c : told + d * answer;
            return sum % tones;
        }

        /** What is heard, acts as now; NONE without signs, whatever is spoken. */
        int toneHeard(int step, int last, int answer) {
            int over = signCount > 0 ? acts.overStep(step) : NONE;
            return over != NONE ? over : ownTone(step, last, answer);
        }

        /** Gaps to a step whose answer may be lost. */
        int gapsAtRisk(int step) {
            int found = 0;
            for (int n = 0; n <= step && n < STEPS; n++) {
                if (isGap(n) && acts.overStep(n) == NONE) {
                    found++;
                }
            }
            return found;
        }
    }

    /** What is spoken over at each step, and what was there before each act. */
    private static final class Acts {
        private final int[] over = new int[STEPS];
        private final int[] steps = new int[MOST_ACTS];
        private final int[] before = new int[MOST_ACTS];
        private int size;

        Acts() {
            Arrays.fill(over, NONE);
        }

        int size() {
            return size;
        }

        int overStep(int step) {
            return step >= 0 && step < over.length ? over[step] : NONE;
        }

        /** A word that is no act: only trials have it. */
        void putOver(int step, int tone) {
            if (step >= 0 && step < over.length) {
                over[step] = tone;
            }
        }

        void add(int step, int tone) {
            if (size < steps.length) {
                steps[size] = step;
                before[size] = overStep(step);
                size++;
                putOver(step, tone);
            }
        }

        void takeBack() {
            if (size > 0) {
                size--;
                putOver(steps[size], before[size]);
            }
        }

        void clear() {
            Arrays.fill(over, NONE);
            size = 0;
        }

        void copyFrom(Acts other) {
            System.arraycopy(other.over, 0, over, 0, STEPS);
            System.arraycopy(other.steps, 0, steps, 0, MOST_ACTS);
            System.arraycopy(other.before, 0, before, 0, MOST_ACTS);
            size = other.size;
        }
    }

    /** A row of numbers of one width, or nothing. */
    private static final class Slot {
        private final long[] numbers = new long[ROW_NUMBERS];
        private int width;
        private int size;
        private boolean made;

        boolean hasRow() {
            return made;
        }

        int width() {
            return width;
        }

        int size() {
            return size;
        }

        void make(int newWidth, int n) {
            width = newWidth;
            size = Math.max(0, Math.min(n, numbers.length));
            made = true;
            Arrays.fill(numbers, 0);
        }

        long at(int i) {
            return i >= 0 && i < size ? numbers[i] : 0;
        }

        void put(int i, long v) {
            if (i >= 0 && i < size) {
                numbers[i] = cutToWidth(v);
            }
        }

        boolean holds(int from, int n) {
            return from >= 0 && n >= 0 && from <= size && n <= size - from;
        }

        void copyFrom(Slot source, int from, int to, int n) {
            if (source.holds(from, n) && holds(to, n)) {
                System.arraycopy(source.numbers, from, numbers, to, n);
            }
        }

        private long cutToWidth(long v) {
            switch (width) {
                case 0:
                    return (byte) v;
                case 1:
                    return (short) v;
                case 2:
                    return (int) v;
                default:
                    return v;
            }
        }
    }

    /** A night step by step, as a station with its acts is heard. */
    private static final class Night {
        private final int[] tones = new int[STEPS];
        private final int[] lasts = new int[STEPS];
        private final int[] answers = new int[STEPS];
        private final boolean[] pip = new boolean[STEPS];

        void hear(Station station, int to) {
            int last = 0;
            int answer = 0;
            for (int n = 0; n <= to && n < STEPS; n++) {
                int tone = station.toneHeard(n, last, answer);
                boolean gap = station.isGap(n);
                tones[n] = tone;
                lasts[n] = last;
                answers[n] = answer;
                pip[n] = gap && tone == last;
                if (gap) {
                    answer = tone;
                } else if (tone != NONE) {
                    last = tone;
                }
            }
        }

        int heardAt(int step) {
            return step >= 0 && step < STEPS ? tones[step] : NONE;
        }

        int lastAhead(int step) {
            return step >= 0 && step < STEPS ? lasts[step] : 0;
        }

        int answerAhead(int step) {
            return step >= 0 && step < STEPS ? answers[step] : 0;
        }

        boolean isPip(int step) {
            return step >= 0 && step < STEPS && pip[step];
        }

        int pipsTo(int step) {
            int found = 0;
            for (int n = 0; n <= step && n < STEPS; n++) {
                if (pip[n]) {
                    found++;
                }
            }
            return found;
        }

        int stepOfPip(int k) {
            int found = 0;
            for (int n = 0; n < STEPS; n++) {
                if (pip[n]) {
                    if (found == k) {
                        return n;
                    }
                    found++;
                }
            }
            return NONE;
        }

        int firstStepOf(int tone) {
            for (int n = 0; n < STEPS; n++) {
                if (tones[n] == tone) {
                    return n;
                }
            }
            return NONE;
        }

        int timesHeard(int tone, int to) {
            int found = 0;
            for (int n = 0; n <= to && n < STEPS; n++) {
                if (tones[n] == tone) {
                    found++;
                }
            }
            return found;
        }

        int tonesTo(int step) {
            int bits = 0;
            for (int n = 0; n <= step && n < STEPS; n++) {
                if (tones[n] != NONE) {
                    bits |= 1 << tones[n];
                }
            }
            return bits;
        }

        int longestHeld() {
            int longest = 0;
            int length = 0;
            for (int n = 0; n < STEPS; n++) {
                if (tones[n] == NONE) {
                    length = 0;
                } else if (n > 0 && tones[n] == tones[n - 1]) {
                    length++;
                } else {
                    length = 1;
                }
                longest = Math.max(longest, length);
            }
            return longest;
        }

        int longestWithoutPip() {
            int longest = 0;
            int length = 0;
            for (int n = 0; n < STEPS; n++) {
                length = pip[n] ? 0 : length + 1;
                longest = Math.max(longest, length);
            }
            return longest;
        }

        /** Neighbouring steps whose tones rise (way 1) or fall (way -1). */
        int pairsThatMove(int way) {
            int found = 0;
            for (int n = 1; n < STEPS; n++) {
                if ((tones[n] - tones[n - 1]) * way > 0) {
                    found++;
                }
            }
            return found;
        }

        int greatestLeap() {
            int greatest = 0;
            for (int n = 1; n < STEPS; n++) {
                greatest = Math.max(greatest, Math.abs(tones[n] - tones[n - 1]));
            }
            return greatest;
        }

        int lastStepAlike(int step) {
            int tone = heardAt(step);
            if (tone == NONE) {
                return NONE;
            }
            for (int n = step - 1; n >= 0; n--) {
                if (heardAt(n) == tone) {
                    return n;
                }
            }
            return NONE;
        }
    }

    /** The round that a station goes, nothing spoken: known as soon as sign, last and answer come again. */
    private static final class Circle {
        private static final int STATES = MOST_SIGNS * MOST_TONES * MOST_TONES;

        private final int[] stepOfState = new int[STATES];
        private final int[] tones = new int[STATES];
        private final boolean[] pip = new boolean[STATES];
        private int from = NONE;
        private int behind = NONE;

        int from() {
            return from;
        }

        int steps() {
            return from == NONE ? NONE : behind - from;
        }

        void goRound(Station station) {
            from = NONE;
            behind = NONE;
            if (station.signCount() == 0) {
                return;
            }
            Arrays.fill(stepOfState, NONE);
            int last = 0;
            int answer = 0;
            for (int n = 0; n <= STATES && from == NONE; n++) {
                int state = (station.signNumber(n) * MOST_TONES + last) * MOST_TONES + answer;
                if (state < 0 || state >= STATES) {
                    return;
                }
                if (stepOfState[state] != NONE) {
                    from = stepOfState[state];
                    behind = n;
                } else if (n < STATES) {
                    stepOfState[state] = n;
                    boolean gap = station.isGap(n);
                    tones[n] = station.ownTone(n, last, answer);
                    pip[n] = gap && tones[n] == last;
                    last = gap ? last : tones[n];
                    answer = gap ? tones[n] : answer;
                }
            }
        }

        int pipsInside() {
            if (from == NONE) {
                return NONE;
            }
            int found = 0;
            for (int n = from; n < behind && n < STATES; n++) {
                if (pip[n]) {
                    found++;
                }
            }
            return found;
        }

        int toneAt(int n) {
            int length = steps();
            if (length <= 0 || n < 0) {
                return NONE;
            }
            int alike = n < behind ? n : from + (n - from) % length;
            return alike >= 0 && alike < STATES ? tones[alike] : NONE;
        }
    }

    /**
     * The fewest words that bring a tone about, by way of all lasts and answers there can be.
     * At a gap the last is kept and the answer changes, at a note the other way round; what a word
     * makes of the one that changes does not depend on what it was, so that the cheapest of those
     * with the same kept one serves for all words.
     */
    private static final class Words {
        private static final int STATES = MOST_TONES * MOST_TONES;
        private static final int NO_WAY = 1_000;

        private int[] spent = new int[STATES];
        private int[] spentNext = new int[STATES];
        private final int[] missing = new int[(LAST_PLAN_STEP + 1) * STATES];

        int fewestTo(Station station, int step, int tone, boolean gapsAlone) {
            if (station.signCount() == 0) {
                return NONE;
            }
            walkTo(station, step, gapsAlone);
            int fewest = NO_WAY;
            for (int last = 0; last < station.tones(); last++) {
                for (int answer = 0; answer < station.tones(); answer++) {
                    if (station.ownTone(step, last, answer) == tone) {
                        fewest = Math.min(fewest, spent[state(last, answer)]);
                    }
                }
            }
            return fewest < NO_WAY ? fewest : NONE;
        }

        int tonesReached(Station station, int step) {
            if (station.signCount() == 0) {
                return 0;
            }
            walkTo(station, step, false);
            int bits = 0;
            for (int last = 0; last < station.tones(); last++) {
                for (int answer = 0; answer < station.tones(); answer++) {
                    if (spent[state(last, answer)] < NO_WAY) {
                        bits |= 1 << station.ownTone(step, last, answer);
                    }
                }
            }
            return bits;
        }

        /** The silent night has nothing spoken: what it has ahead of a step is to come about again. */
        int fewestToMend(Station station, Night silentNight, int step, int tone) {
            if (station.signCount() == 0) {
                return 0;
            }
            boolean gap = station.isGap(step);
            int last = gap ? silentNight.lastAhead(step) : tone;
            int answer = gap ? tone : silentNight.answerAhead(step);
            start(last, answer);
            int fewest = NO_WAY;
            for (int n = step + 1; n < STEPS; n++) {
                int mended = state(silentNight.lastAhead(n), silentNight.answerAhead(n));
                fewest = Math.min(fewest, spent[mended]);
                walkOver(station, n, false);
            }
            return fewest < NO_WAY ? fewest : NONE;
        }

        int spokenByPlan(Station station, int step, int tone, int i) {
            if (station.signCount() == 0 || i >= step) {
                return NONE;
            }
            countMissing(station, step, tone);
            if (missing[0] >= NO_WAY) {
                return NONE;
            }
            int last = 0;
            int answer = 0;
            int word = NONE;
            for (int n = 0; n <= i && n < LAST_PLAN_STEP; n++) {
                word = firstWord(station, n, last, answer);
                int heardThen = word == NONE ? station.ownTone(n, last, answer) : word;
                boolean gap = station.isGap(n);
                last = gap ? last : heardThen;
                answer = gap ? heardThen : answer;
            }
            return word;
        }

        private void walkTo(Station station, int step, boolean gapsAlone) {
            start(0, 0);
            for (int n = 0; n < step && n < STEPS; n++) {
                walkOver(station, n, gapsAlone);
            }
        }

        private void start(int last, int answer) {
            Arrays.fill(spent, NO_WAY);
            spent[state(last, answer)] = 0;
        }

        private void walkOver(Station station, int step, boolean gapsAlone) {
            boolean gap = station.isGap(step);
            boolean maySpeak = gap || !gapsAlone;
            Arrays.fill(spentNext, NO_WAY);
            for (int kept = 0; kept < station.tones(); kept++) {
                int withWord = maySpeak ? cheapest(spent, 0, station.tones(), gap, kept) + 1 : NO_WAY;
                for (int tone = 0; tone < station.tones(); tone++) {
                    spentNext[stateOf(gap, kept, tone)] = Math.min(withWord, NO_WAY);
                }
                for (int old = 0; old < station.tones(); old++) {
                    int next = stateOf(gap, kept, ownTone(station, step, gap, kept, old));
                    spentNext[next] = Math.min(spentNext[next], spent[stateOf(gap, kept, old)]);
                }
            }
            int[] walked = spent;
            spent = spentNext;
            spentNext = walked;
        }

        /** How many words are still missing ahead of each step, so that the tone is heard at the last. */
        private void countMissing(Station station, int step, int tone) {
            Arrays.fill(missing, NO_WAY);
            for (int last = 0; last < station.tones(); last++) {
                for (int answer = 0; answer < station.tones(); answer++) {
                    boolean comes = station.ownTone(step, last, answer) == tone;
                    missing[missingAt(step) + state(last, answer)] = comes ? 0 : NO_WAY;
                }
            }
            for (int n = step - 1; n >= 0; n--) {
                countMissingAhead(station, n);
            }
        }

        private void countMissingAhead(Station station, int step) {
            boolean gap = station.isGap(step);
            int here = missingAt(step);
            int behind = missingAt(step + 1);
            for (int kept = 0; kept < station.tones(); kept++) {
                int withWord = cheapest(missing, behind, station.tones(), gap, kept) + 1;
                for (int old = 0; old < station.tones(); old++) {
                    int unspoken = missing[behind + stateOf(gap, kept, ownTone(station, step, gap, kept, old))];
                    int fewest = Math.min(Math.min(unspoken, withWord), NO_WAY);
                    missing[here + stateOf(gap, kept, old)] = fewest;
                }
            }
        }

        /** The first word of those that keep to the fewest: none, if none does. */
        private int firstWord(Station station, int step, int last, int answer) {
            boolean gap = station.isGap(step);
            int kept = gap ? last : answer;
            int left = missing[missingAt(step) + state(last, answer)];
            int behind = missingAt(step + 1);
            if (missing[behind + stateOf(gap, kept, station.ownTone(step, last, answer))] == left) {
                return NONE;
            }
            for (int tone = 0; tone < station.tones(); tone++) {
                if (missing[behind + stateOf(gap, kept, tone)] + 1 == left) {
                    return tone;
                }
            }
            return NONE;
        }

        private static int cheapest(int[] costs, int from, int tones, boolean gap, int kept) {
            int least = NO_WAY;
            for (int tone = 0; tone < tones; tone++) {
                least = Math.min(least, costs[from + stateOf(gap, kept, tone)]);
            }
            return least;
        }

        private static int ownTone(Station station, int step, boolean gap, int kept, int old) {
            return gap ? station.ownTone(step, kept, old) : station.ownTone(step, old, kept);
        }

        private static int stateOf(boolean gap, int kept, int changed) {
            return gap ? state(kept, changed) : state(changed, kept);
        }

        /** Within the rows, whatever is asked. */
        private static int state(int last, int answer) {
            int at = last * MOST_TONES + answer;
            return at >= 0 && at < STATES ? at : 0;
        }

        private static int missingAt(int step) {
            return Math.max(0, Math.min(step, LAST_PLAN_STEP)) * STATES;
        }
    }

    /** Goes through all triples of a, b and c, d as told and nothing spoken. */
    private static final class LawSearch {
        /** A column more than tones: without signs nothing is heard, and this is known as well. */
        private static final int COLUMNS = MOST_TONES + 1;

        private final Station trial = new Station();
        private final Night night = new Night();
        private final int[] tally = new int[STEPS * COLUMNS];
        private int found;
        private int firstFound;
        private int prettiestLaw;
        private int mostPips;
        private int withoutPip;

        int prettiest() {
            return prettiestLaw;
        }

        int silentLaws() {
            return withoutPip;
        }

        int howMany() {
            return found;
        }

        int firstFitting() {
            return firstFound;
        }

        void searchPips(Station station) {
            begin(station);
            prettiestLaw = 0;
            mostPips = NONE;
            withoutPip = 0;
            int tones = station.tones();
            for (int a = 0; a < tones; a++) {
                for (int b = 0; b < tones; b++) {
                    for (int c = 0; c < tones; c++) {
                        trial.setLaw(a, b, c);
                        notePips(100 * a + 10 * b + c);
                    }
                }
            }
        }

        /** With a tally, it is counted by how many of the laws found which tone is heard at which step. */
        void searchFitting(Station station, Slot row, boolean withTally) {
            begin(station);
            found = 0;
            firstFound = NONE;
            Arrays.fill(tally, 0);
            int lastSeen = lastStepSeen(row);
            int tones = station.tones();
            for (int a = 0; a < tones; a++) {
                for (int b = 0; b < tones; b++) {
                    for (int c = 0; c < tones; c++) {
                        trial.setLaw(a, b, c);
                        night.hear(trial, lastSeen);
                        if (fits(row)) {
                            noteFitting(100 * a + 10 * b + c, withTally);
                        }
                    }
                }
            }
        }

        /** The step that leaves fewest laws at worst, or NONE if no step leaves fewer than now. */
        int stepToAsk() {
            int best = NONE;
            int fewest = found;
            for (int step = 0; step < STEPS; step++) {
                int left = leftAtWorst(step);
                if (left < fewest) {
                    best = step;
                    fewest = left;
                }
            }
            return best;
        }

        int leftAtWorst(int step) {
            if (step < 0 || step >= STEPS) {
                return found;
            }
            int most = 0;
            for (int column = 0; column < COLUMNS; column++) {
                most = Math.max(most, tally[step * COLUMNS + column]);
            }
            return most;
        }

        private void begin(Station station) {
            trial.copyFrom(station);
            trial.acts().clear();
        }

        private void notePips(int law) {
            night.hear(trial, LAST_STEP);
            int pips = night.pipsTo(LAST_STEP);
            if (pips > mostPips) {
                mostPips = pips;
                prettiestLaw = law;
            }
            if (pips == 0) {
                withoutPip++;
            }
        }

        private void noteFitting(int law, boolean withTally) {
            if (found == 0) {
                firstFound = law;
            }
            found++;
            if (withTally) {
                night.hear(trial, LAST_STEP);
                addToTally();
            }
        }

        private void addToTally() {
            for (int step = 0; step < STEPS; step++) {
                int column = night.heardAt(step) + 1;
                if (column >= 0 && column < COLUMNS) {
                    tally[step * COLUMNS + column]++;
                }
            }
        }

        private boolean fits(Slot row) {
            for (int i = 0; i < row.size(); i += 2) {
                if (night.heardAt((int) row.at(i)) != row.at(i + 1)) {
                    return false;
                }
            }
            return true;
        }

        private static int lastStepSeen(Slot row) {
            int latest = NONE;
            for (int i = 0; i < row.size(); i += 2) {
                latest = Math.max(latest, (int) row.at(i));
            }
            return latest;
        }
    }

    /** Goes through all places from which a row of posts and minutes can have come. */
    private static final class PlaceSearch {
        /** The latest minute at a post that is set up anew: sent in the last one, from the other end. */
        private static final int MINUTES = LAST_MINUTE + PLACES;

        private final int[] sentAt = new int[PLACES];
        private final int[] tally = new int[MINUTES];
        private int found;
        private int leastPlace;
        private int greatestPlace;

        int howMany() {
            return found;
        }

        int least() {
            return leastPlace;
        }

        int greatest() {
            return greatestPlace;
        }

        void searchFitting(Station station, Slot row) {
            found = 0;
            leastPlace = NONE;
            greatestPlace = NONE;
            for (int place = 0; place < PLACES; place++) {
                sentAt[place] = minuteSent(station, row, place);
                if (sentAt[place] != NONE) {
                    leastPlace = found == 0 ? place : leastPlace;
                    greatestPlace = place;
                    found++;
                }
            }
        }

        /** The place of a post that leaves fewest places at worst, or NONE if none leaves fewer than now. */
        int whereToSet() {
            int best = NONE;
            int fewest = found;
            for (int place = 0; place < PLACES; place++) {
                int left = leftAtWorst(place);
                if (left < fewest) {
                    best = place;
                    fewest = left;
                }
            }
            return best;
        }

        /** NONE if the row can't have come from there; any minute if the row has no numbers. */
        private static int minuteSent(Station station, Slot row, int place) {
            int sent = 0;
            for (int i = 0; i < row.size(); i += 2) {
                int minute = (int) row.at(i + 1) - station.wayToPost(place, (int) row.at(i));
                if (minute < 0 || (i > 0 && minute != sent)) {
                    return NONE;
                }
                sent = minute;
            }
            return sent;
        }

        private int leftAtWorst(int post) {
            Arrays.fill(tally, 0);
            int most = 0;
            for (int place = leastPlace; place <= greatestPlace && place < PLACES; place++) {
                if (place >= 0 && sentAt[place] != NONE) {
                    most = Math.max(most, countMinute(sentAt[place] + Math.abs(place - post)));
                }
            }
            return most;
        }

        private int countMinute(int minute) {
            if (minute < 0 || minute >= MINUTES) {
                return 0;
            }
            tally[minute]++;
            return tally[minute];
        }
    }

    /** A night whose answers are lost as they are drawn from a seed. */
    private static final class DrawnNight {
        private static final long FACTOR = 1_103_515_245L;
        private static final long SUMMAND = 12_345L;
        private static final long MODULUS = 2_147_483_648L;

        private long x;
        private int tone;
        private int lost;
        private int answer;

        int toneAtEnd() {
            return tone;
        }

        int answersLost() {
            return lost;
        }

        int answerBehind() {
            return answer;
        }

        void draw(Station station, int seed, int to) {
            x = seed;
            tone = NONE;
            lost = 0;
            answer = 0;
            int last = 0;
            for (int n = 0; n <= to && n < STEPS; n++) {
                tone = station.toneHeard(n, last, answer);
                if (station.isGap(n)) {
                    drawAnswer(station, n);
                } else if (tone != NONE) {
                    last = tone;
                }
            }
        }

        private void drawAnswer(Station station, int step) {
            if (station.acts().overStep(step) == NONE && nextDraw() < station.odds()) {
                lost++;
                tone = NONE;
            } else {
                answer = tone;
            }
        }

        private int nextDraw() {
            x = (FACTOR * x + SUMMAND) % MODULUS;
            return (int) (x / 65_536 % 10);
        }
    }
}
