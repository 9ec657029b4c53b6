/** Boundary cases of promises 55 to 59, 64 and 65, and of terms VIII and IX: rivals, chance, nights drawn. */
final class ChanceBounds {
    /** First draws from seeds 0 .. 19, and from 2,000,000,000 .. 2,000,000,019, worked out in another program. */
    private static final int[] EARLY = {0, 8, 8, 7, 7, 5, 6, 4, 4, 2, 3, 1, 1, 0, 0, 8, 9, 7, 7, 6};
    private static final int[] LATE = {4, 2, 2, 1, 1, 9, 0, 8, 8, 6, 7, 5, 5, 4, 4, 2, 3, 1, 1, 0};
    private static final int LARGEST = 2_000_000_000;

    private final Check check;

    private ChanceBounds(Check check) {
        this.check = check;
    }

    static void run(Check check) {
        ChanceBounds bounds = new ChanceBounds(check);
        bounds.rivals();
        bounds.fractions();
        bounds.chanceSteps();
        bounds.sureSteps();
        bounds.drawsFromEdgesOfSeeds();
        bounds.drawsOneBehindTheOther();
        bounds.drawnSteps();
        bounds.drawnWords();
        bounds.lucky();
        bounds.withoutSigns();
    }

    private void due(String call, long got, long want) {
        check.due(call, got, want);
    }

    private void rivals() {
        for (int k = 0; k < 2; k++) {
            IntervalSignal x = k == 0 ? new IntervalSignal() : Check.of(Stations.A);
            String when = k == 0 ? "no STATION is needed" : "with a STATION";
            check.about(55, when);
            due("rests", x.rests(), 0);
            check.about(56, when + ", 0 and 3");
            due("sounds(0, 0)", x.sounds(0, 0), 4);
            due("sounds(3, 3)", x.sounds(3, 3), -5);
            due("sounds(3, 0)", x.sounds(3, 0), 1);
            due("sounds(0, 3)", x.sounds(0, 3), 0);
            check.about(57, when + ", 0 and 3");
            due("best(0)", x.best(0), 1);
            due("best(3)", x.best(3), 0);
        }
        IntervalSignal x = new IntervalSignal();
        for (int v : new int[] {Integer.MIN_VALUE, -1, 4, 256, Integer.MAX_VALUE}) {
            check.about(56, "none such");
            due("sounds(" + v + ", 0)", x.sounds(v, 0), -1000);
            due("sounds(0, " + v + ")", x.sounds(0, v), -1000);
            due("sounds(" + v + ", " + v + ")", x.sounds(v, v), -1000);
            check.about(57, "none such");
            due("best(" + v + ")", x.best(v), -2);
        }
        check.about(57, "least or not: each is best alone");
        due("best(1)", x.best(1), 2);
        due("best(2)", x.best(2), 3);
    }

    private void fractions() {
        long five18 = 3_814_697_265_625L;
        long ten18 = 1_000_000_000_000_000_000L;
        long[] above = {1, 150_094_635_296_999_121L, 68_719_476_736L, 1_628_413_597_910_449L, 387_420_489, 1, 262_144,
            387_420_489, 1, 1, 0};
        long[] below = {1, ten18, five18, ten18, five18, 262_144, five18, ten18, five18, ten18, 1};
        for (int odds = 0; odds <= 10; odds++) {
            IntervalSignal x = Check.of(Stations.lostWith(odds));
            check.about(58, "18 gaps with odds " + odds + ", lowest terms");
            due("chance(17, 0)", x.chance(17, 0), above[odds]);
            due("chance(17, 1)", x.chance(17, 1), below[odds]);
        }
        check.about(58, "0 / 1");
        IntervalSignal b = Check.of(Stations.B);
        due("the first gap", b.chance(1, 0), 0);
        due("the first gap", b.chance(1, 1), 1);
        check.about(58, "ahead of the first gap 1 / 1");
        due("chance(0, 0)", b.chance(0, 0), 1);
        due("chance(0, 1)", b.chance(0, 1), 1);
    }

    private void chanceSteps() {
        IntervalSignal x = Check.of(Stations.lostWith(5));
        check.about(58, "STEP 0 and STEP 17");
        due("chance(0, 1)", x.chance(0, 1), 2);
        due("chance(17, 1)", x.chance(17, 1), 262_144);
        check.about(58, "no STEP 18 or -1");
        for (int step : new int[] {Integer.MIN_VALUE, -1, 18, 60, Integer.MAX_VALUE}) {
            due("chance(" + step + ", 0)", x.chance(step, 0), -2);
            due("chance(" + step + ", 1)", x.chance(step, 1), -2);
        }
        check.about(58, "no what 2 or -1");
        for (int what : new int[] {Integer.MIN_VALUE, -1, 2, Integer.MAX_VALUE}) {
            due("chance(0, " + what + ")", x.chance(0, what), -2);
        }
        check.about(58, "no STATION");
        due("chance(0, 0)", new IntervalSignal().chance(0, 0), -2);
        due("chance(0, 1)", new IntervalSignal().chance(0, 1), -2);
        check.about(58, "spoken ones are never lost");
        for (int step = 0; step <= 17; step++) {
            x.speak(step, 1);
        }
        due("chance(17, 0)", x.chance(17, 0), 1);
        due("chance(17, 1)", x.chance(17, 1), 1);
        x.speak(17, -1);
        due("but the last", x.chance(17, 1), 2);
        due("ahead of it", x.chance(16, 1), 1);
        check.about(58, "a word over a note saves nothing");
        IntervalSignal b = Check.of(Stations.B);
        b.speak(0, 1);
        due("chance(1, 0)", b.chance(1, 0), 0);
    }

    private void sureSteps() {
        check.about(59, "0 in a hundred is it to the last");
        due("sure(0)", Check.of(Stations.lostWith(10)).sure(0), 17);
        check.about(59, "not even STEP 0");
        due("sure(1)", Check.of(Stations.lostWith(10)).sure(1), -1);
        due("sure(100)", Check.of(Stations.lostWith(1)).sure(100), -1);
        check.about(59, "100 in a hundred");
        due("none is lost", Check.of(Stations.lostWith(0)).sure(100), 17);
        due("ahead of the first gap", Check.of(Stations.B).sure(100), 0);
        check.about(59, "at least: as much is enough, one more is not");
        IntervalSignal half = Check.of(Stations.lostWith(5));
        due("sure(50)", half.sure(50), 0);
        due("sure(51)", half.sure(51), -1);
        due("sure(25)", half.sure(25), 1);
        due("sure(26)", half.sure(26), 0);
        IntervalSignal nine = Check.of(Stations.lostWith(1));
        due("sure(90)", nine.sure(90), 0);
        due("sure(91)", nine.sure(91), -1);
        due("sure(81)", nine.sure(81), 1);
        due("sure(82)", nine.sure(82), 0);
        check.about(59, "to STEP 17 it is 15.009.. in a hundred");
        due("sure(15)", nine.sure(15), 17);
        due("sure(16)", nine.sure(16), 16);
        IntervalSignal one = Check.of(Stations.lostWith(9));
        check.about(59, "1 in a hundred");
        due("sure(1)", one.sure(1), 1);
        due("sure(2)", one.sure(2), 0);
        due("sure(10)", one.sure(10), 0);
        due("sure(11)", one.sure(11), -1);
        check.about(59, "no p 101 or -1");
        for (int p : new int[] {Integer.MIN_VALUE, -1, 101, Integer.MAX_VALUE}) {
            due("sure(" + p + ")", nine.sure(p), -2);
        }
        check.about(59, "acts as now");
        nine.speak(0, 1);
        due("sure(100)", nine.sure(100), 0);
        for (int step = 1; step <= 17; step++) {
            nine.speak(step, 1);
        }
        due("all are spoken over", nine.sure(100), 17);
        check.about(59, "no STATION");
        due("sure(0)", new IntervalSignal().sure(0), -2);
    }

    private void drawsFromEdgesOfSeeds() {
        for (int odds = 0; odds <= 10; odds++) {
            IntervalSignal x = Check.of(Stations.lostWith(odds));
            check.about(64, "below odds it is lost: odds " + odds);
            for (int seed = 0; seed < 20; seed++) {
                boolean lost = EARLY[seed] < odds;
                due("seed " + seed, x.drawn(seed, 0, 0), lost ? -1 : 0);
                due("seed " + seed, x.drawn(seed, 0, 1), lost ? 1 : 0);
            }
            check.about(64, "seed 2,000,000,000, odds " + odds);
            due("draw 4", x.drawn(LARGEST, 0, 1), 4 < odds ? 1 : 0);
        }
        IntervalSignal x = Check.of(Stations.lostWith(5));
        check.about(64, "no seed -1 or 2,000,000,001");
        for (int seed : new int[] {Integer.MIN_VALUE, -1, LARGEST + 1, Integer.MAX_VALUE}) {
            due("drawn(" + seed + ", 0, 0)", x.drawn(seed, 0, 0), -2);
        }
    }

    /** Twelve draws from the least and from the largest seed, worked out in another program. */
    private void drawsOneBehindTheOther() {
        int[] fromLeast = {0, 8, 8, 7, 8, 7, 5, 1, 2, 0, 1, 2};
        int[] fromLargest = {4, 3, 1, 7, 6, 2, 7, 7, 5, 4, 7, 0};
        for (int odds = 1; odds <= 9; odds += 2) {
            IntervalSignal x = Check.of(Stations.lostWith(odds));
            int lostFromLeast = 0;
            int lostFromLargest = 0;
            check.about(64, "draws one behind the other, odds " + odds);
            for (int step = 0; step < 12; step++) {
                lostFromLeast += fromLeast[step] < odds ? 1 : 0;
                lostFromLargest += fromLargest[step] < odds ? 1 : 0;
                due("from 0 to " + step, x.drawn(0, step, 1), lostFromLeast);
                due("from 0 at " + step, x.drawn(0, step, 0), fromLeast[step] < odds ? -1 : 0);
                due("from 2,000,000,000 to " + step, x.drawn(LARGEST, step, 1), lostFromLargest);
            }
        }
    }

    private void drawnSteps() {
        IntervalSignal x = Check.of("station tones 3 a 1 b 0 c 1 d 0 odds 5;gap;note 1;");
        // draws from seed 0: 0, 8, 8, 7, .. at STEPS 0, 2, 4, 6, ..
        check.about(64, "STEP 0 is lost");
        due("nothing", x.drawn(0, 0, 0), -1);
        due("one lost", x.drawn(0, 0, 1), 1);
        due("ANSWER stays", x.drawn(0, 0, 2), 0);
        check.about(64, "a note takes no draw and is never lost");
        due("the note", x.drawn(0, 1, 0), 1);
        due("one lost", x.drawn(0, 1, 1), 1);
        due("ANSWER", x.drawn(0, 1, 2), 0);
        check.about(64, "behind it, not ahead of it");
        due("the answer", x.drawn(0, 2, 0), 2);
        due("ANSWER", x.drawn(0, 2, 2), 2);
        check.about(64, "LAST and ANSWER are 0 ahead of STEP 0");
        due("1 above LAST", Check.of(Stations.NEVER).drawn(0, 0, 0), 1);
        due("a note alone", Check.of(Stations.A).drawn(0, 0, 0), 2);
        check.about(64, "STEP 60");
        IntervalSignal all = Check.of("station tones 3 a 1 b 0 c 1 d 0 odds 10;gap;note 1;");
        due("to 59", all.drawn(0, 59, 1), 30);
        due("to 60", all.drawn(0, 60, 1), 31);
        due("nothing", all.drawn(0, 60, 0), -1);
        due("ANSWER", all.drawn(0, 60, 2), 0);
        due("none is lost", Check.of(Stations.NEVER).drawn(0, 60, 1), 0);
        due("heard", Check.of(Stations.NEVER).drawn(0, 60, 0), 2);
        check.about(64, "no STEP 61 or -1");
        for (int step : new int[] {Integer.MIN_VALUE, -1, 61, Integer.MAX_VALUE}) {
            due("drawn(0, " + step + ", 0)", x.drawn(0, step, 0), -2);
        }
        check.about(64, "no what 3 or -1");
        for (int what : new int[] {Integer.MIN_VALUE, -1, 3, Integer.MAX_VALUE}) {
            due("drawn(0, 0, " + what + ")", x.drawn(0, 0, what), -2);
        }
        check.about(64, "no STATION");
        for (int what = 0; what <= 2; what++) {
            due("drawn(0, 0, " + what + ")", new IntervalSignal().drawn(0, 0, what), -2);
        }
    }

    private void drawnWords() {
        IntervalSignal x = Check.of(Stations.lostWith(10));
        x.speak(0, 1);
        x.speak(60, 1);
        check.about(64, "spoken ones are never lost");
        due("STEP 0", x.drawn(0, 0, 0), 1);
        due("STEP 0", x.drawn(0, 0, 1), 0);
        due("ANSWER stays behind it", x.drawn(0, 59, 2), 1);
        due("the others are", x.drawn(0, 59, 1), 59);
        due("STEP 60", x.drawn(0, 60, 0), 1);
        due("STEP 60", x.drawn(0, 60, 1), 59);
        check.about(64, "a gap that is spoken over takes no draw");
        IntervalSignal y = Check.of(Stations.lostWith(5));
        // draws from seed 1: 8, 8, 3, ..
        due("draw 3", y.drawn(1, 2, 0), -1);
        y.speak(0, 1);
        due("draw 8", y.drawn(1, 2, 0), 0);
        due("draw 3", y.drawn(1, 3, 0), -1);
        check.about(64, "a word taken back takes none either");
        y.speak(0, -1);
        due("draw 3", y.drawn(1, 2, 0), -1);
    }

    private void lucky() {
        IntervalSignal x = Check.of(Stations.lostWith(5));
        check.about(65, "1 .. 20 NIGHTS, from the seed on");
        int early = 0;
        int late = 0;
        for (int n = 1; n <= 20; n++) {
            early += EARLY[n - 1] < 5 ? 0 : 1;
            late += LATE[n - 1] < 5 ? 0 : 1;
            due("luck(0, " + n + ")", x.luck(0, n, 0, 0), early);
            due("from the largest seed", x.luck(LARGEST, n, 0, 0), late);
        }
        check.about(65, "no n 0 or 21");
        for (int n : new int[] {Integer.MIN_VALUE, -1, 0, 21, Integer.MAX_VALUE}) {
            due("luck(0, " + n + ")", x.luck(0, n, 0, 0), -2);
        }
        check.about(65, "no seed -1 or 2,000,000,001");
        for (int seed : new int[] {Integer.MIN_VALUE, -1, LARGEST + 1, Integer.MAX_VALUE}) {
            due("luck(" + seed + ", 1)", x.luck(seed, 1, 0, 0), -2);
        }
        check.about(65, "STEP 60, and no 61 or -1");
        due("luck(0, 20, 60, 0)", Check.of(Stations.PIPS).luck(0, 20, 60, 0), 20);
        for (int step : new int[] {Integer.MIN_VALUE, -1, 61, Integer.MAX_VALUE}) {
            due("luck(0, 1, " + step + ")", x.luck(0, 1, step, 0), -2);
        }
        check.about(65, "TONE 1, and no 2 or -1");
        due("luck(0, 20, 0, 1)", x.luck(0, 20, 0, 1), 0);
        due("luck(0, 20, 0, 2)", x.luck(0, 20, 0, 2), -2);
        due("a lost one is no TONE", x.luck(0, 20, 0, -1), -2);
        x.speak(0, 1);
        due("a word is heard in all", x.luck(0, 20, 0, 1), 20);
        check.about(65, "no STATION");
        due("luck(0, 1, 0, 0)", new IntervalSignal().luck(0, 1, 0, 0), -2);
    }

    private void withoutSigns() {
        IntervalSignal n = Check.of(Stations.N);
        for (int spoken = 0; spoken < 2; spoken++) {
            check.about(58, "no SIGNS: none can be lost");
            due("chance(17, 0)", n.chance(17, 0), 1);
            due("chance(17, 1)", n.chance(17, 1), 1);
            due("chance(18, 0)", n.chance(18, 0), -2);
            check.about(59, "no SIGNS: none can be lost");
            due("sure(100)", n.sure(100), 17);
            due("sure(101)", n.sure(101), -2);
            check.about(64, "no SIGNS");
            due("nothing is heard", n.drawn(0, 60, 0), -1);
            due("none lost", n.drawn(0, 60, 1), 0);
            due("ANSWER", n.drawn(0, 60, 2), 0);
            due("no such STEP", n.drawn(0, 61, 0), -2);
            check.about(65, "no SIGNS");
            due("luck", n.luck(0, 20, 60, 3), 0);
            due("no such TONE", n.luck(0, 20, 60, 4), -2);
            n.speak(60, 3);
        }
    }
}
