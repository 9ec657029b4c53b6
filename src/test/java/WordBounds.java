/** Boundary cases of promises 31, 34 to 40, 42, 60 to 63 and 66, and of terms IV and V: rounds, plans, acts. */
final class WordBounds {
    private final Check check;

    private WordBounds(Check check) {
        this.check = check;
    }

    static void run(Check check) {
        WordBounds bounds = new WordBounds(check);
        bounds.shortestRounds();
        bounds.roundsBeyondSixty();
        bounds.farSteps();
        bounds.reached();
        bounds.needed();
        bounds.planned();
        bounds.plannedRowIsTheLeast();
        bounds.quietWords();
        bounds.mended();
        bounds.withoutSigns();
        bounds.thirtyActs();
        bounds.wordsSpoken();
        bounds.takenBack();
        bounds.tunes();
    }

    private void due(String call, long got, long want) {
        check.due(call, got, want);
    }

    private void round(String station, int settles, int round, int births) {
        IntervalSignal x = Check.of(station);
        due(station + " settles", x.settles(), settles);
        due(station + " round", x.round(), round);
        due(station + " births", x.births(), births);
    }

    private void shortestRounds() {
        check.about(35, "one STEP");
        round("station tones 2 a 0 b 0 c 0 d 0 odds 0;note 0;", 0, 1, 0);
        round(Stations.PIPS, 0, 1, 1);
        check.about(34, "not from STEP 0 on");
        round("station tones 2 a 0 b 0 c 0 d 0 odds 0;note 1;", 1, 1, 0);
        round(Stations.B, 2, 2, 1);
        check.about(36, "PIPS ahead of STEP k are not in the ROUND");
        // STEP 0 is a gap with 0, a PIP; then LAST is 1, and the answer 0 is none
        round("station tones 2 a 0 b 0 c 0 d 0 odds 0;gap;note 1;", 2, 2, 0);
        check.about(35, "SIGNS are told apart by their numbers");
        round("station tones 2 a 0 b 0 c 0 d 0 odds 0;note 0;note 0;", 0, 2, 0);
        round("station tones 2 a 0 b 0 c 0 d 0 odds 0;gap;gap;gap;gap;gap;gap;gap;gap;", 0, 8, 8);
        check.about(36, "a PIP at the first and at the last STEP of it");
        round("station tones 2 a 0 b 0 c 0 d 0 odds 0;gap;note 0;gap;", 0, 3, 2);
    }

    private void roundsBeyondSixty() {
        IntervalSignal x = Check.of(Stations.LONG_ROUND);
        for (int k = 0; k < 30; k++) {
            x.speak(k, 3);
        }
        check.about(34, "as if nothing were spoken");
        due("settles", x.settles(), 0);
        check.about(35, "beyond 60");
        due("round", x.round(), 72);
        check.about(36, "beyond 60");
        due("at 8, 17 .. 71", x.births(), 8);
        check.about(37, "beyond 60");
        for (int n = 55; n < 150; n++) {
            due("far(" + n + ")", x.far(n), (n + 1) % 9);
        }
        check.about(36, "of another STATION than was asked before");
        Check.tell(x, Stations.PIPS);
        x.station();
        due("births", x.births(), 1);
        check.about(35, "of another STATION than was asked before");
        Check.tell(x, Stations.B);
        x.station();
        due("round", x.round(), 2);
        check.about(34, "it goes round beyond 60, from STEP 2 on");
        // found by a search in another program: the first STEP that is as an earlier one is 74
        round("station tones 9 a 4 b 6 c 8 d 4 odds 0;gap;gap;gap;note 5;gap;note 8;gap;gap;", 2, 72, 0);
    }

    private void farSteps() {
        IntervalSignal x = Check.of(Stations.LONG_ROUND);
        check.about(37, "STEP 0");
        due("far(0)", x.far(0), 1);
        check.about(37, "STEP 2,000,000,000");
        due("far(2000000000)", x.far(2_000_000_000), 3);
        due("a ROUND of one STEP", Check.of(Stations.PIPS).far(2_000_000_000), 0);
        due("a ROUND of one STEP", Check.of(Stations.PIPS).far(0), 0);
        IntervalSignal three = Check.of("station tones 5 a 0 b 0 c 0 d 0 odds 0;note 1;note 2;note 3;");
        check.about(37, "a ROUND of three STEPS from STEP 1 on");
        due("settles", three.settles(), 1);
        due("round", three.round(), 3);
        for (int n = 0; n < 20; n++) {
            due("far(" + n + ")", three.far(n), n % 3 + 1);
        }
        due("far(2000000000)", three.far(2_000_000_000), 3);
        due("far(1999999999)", three.far(1_999_999_999), 2);
        check.about(37, "no such n");
        due("far(2000000001)", x.far(2_000_000_001), -2);
        due("far(-1)", x.far(-1), -2);
        due("far(MAX)", x.far(Integer.MAX_VALUE), -2);
        due("far(MIN)", x.far(Integer.MIN_VALUE), -2);
        check.about(37, "ahead of the ROUND, in it, behind it");
        IntervalSignal y = Check.of("station tones 3 a 0 b 0 c 2 d 1 odds 0;note 0;gap;");
        // ANSWER is 2 from STEP 2 on: HEARD 0 2 2 2 ..
        int[] due = {0, 2, 2, 2, 2, 2};
        for (int n = 0; n < due.length; n++) {
            due("far(" + n + ")", y.far(n), due[n]);
        }
        check.about(37, "as if nothing were spoken");
        y.speak(0, 1);
        due("far(0)", y.far(0), 0);
        due("heard(0)", y.heard(0), 1);
        IntervalSignal n = Check.of(Stations.N);
        check.about(37, "no SIGNS");
        due("far(0)", n.far(0), -1);
        due("far(2000000000)", n.far(2_000_000_000), -1);
        due("far(2000000001)", n.far(2_000_000_001), -2);
        check.about(34, "no SIGNS");
        due("settles", n.settles(), -1);
        check.about(35, "no SIGNS");
        due("round", n.round(), -1);
        check.about(36, "no SIGNS");
        due("births", n.births(), -1);
    }

    private void reached() {
        IntervalSignal x = Check.of(Stations.SAYS_AGAIN);
        check.about(31, "at STEP 0 nothing can be spoken ahead");
        due("reach(0)", x.reach(0), 1);
        check.about(31, "STEP 1 and STEP 40");
        due("reach(1)", x.reach(1), 3);
        due("reach(40)", x.reach(40), 3);
        check.about(31, "no STEP 41 or -1");
        due("reach(41)", x.reach(41), -2);
        due("reach(-1)", x.reach(-1), -2);
        check.about(31, "acts aside");
        x.speak(0, 1);
        due("reach(0)", x.reach(0), 1);
        due("acts stay", x.spoken(0), 1);
        check.about(31, "LAST is 0 ahead of STEP 0");
        due("reach(0)", Check.of("station tones 3 a 1 b 0 c 0 d 0 odds 0;gap;note 1;").reach(0), 1);
        check.about(31, "ANSWER is 0 ahead of STEP 0");
        due("reach(0)", Check.of("station tones 3 a 0 b 1 c 1 d 1 odds 0;note 1;gap;").reach(0), 2);
        check.about(31, "all nine, and the note alone");
        IntervalSignal y = Check.of("station tones 9 a 1 b 0 c 0 d 0 odds 0;note 8;gap;");
        due("reach(1)", y.reach(1), 511);
        due("reach(40)", y.reach(40), 256);
    }

    private void needed() {
        IntervalSignal x = Check.of(Stations.SAYS_AGAIN);
        check.about(38, "none is needed");
        due("needs(0, 0)", x.needs(0, 0), 0);
        due("needs(40, 0)", x.needs(40, 0), 0);
        check.about(38, "by none: none can be spoken ahead of STEP 0");
        due("needs(0, 1)", x.needs(0, 1), -1);
        check.about(38, "STEP 40");
        due("needs(40, 1)", x.needs(40, 1), 1);
        check.about(38, "no STEP 41 or -1");
        due("needs(41, 0)", x.needs(41, 0), -2);
        due("needs(-1, 0)", x.needs(-1, 0), -2);
        check.about(38, "no TONE 2 or -1");
        due("needs(1, 2)", x.needs(1, 2), -2);
        due("needs(1, -1)", x.needs(1, -1), -2);
        check.about(38, "acts aside");
        x.speak(0, 1);
        due("needs(40, 0)", x.needs(40, 0), 0);
        due("needs(40, 1)", x.needs(40, 1), 1);
        check.about(38, "by none, however late");
        IntervalSignal notes = Check.of(Stations.NOTES);
        due("needs(40, 8)", notes.needs(40, 8), -1);
        due("needs(40, 0)", notes.needs(40, 0), 0);
    }

    private void planned() {
        IntervalSignal x = Check.of(Stations.SAYS_AGAIN);
        check.about(39, "none first: the word comes as late as it can");
        for (int i = 0; i < 39; i++) {
            due("plan(40, 1, " + i + ")", x.plan(40, 1, i), -1);
        }
        due("plan(40, 1, 39)", x.plan(40, 1, 39), 1);
        check.about(39, "at the STEP itself and behind it nothing is spoken");
        due("plan(40, 1, 40)", x.plan(40, 1, 40), -1);
        due("plan(1, 1, 0)", x.plan(1, 1, 0), 1);
        due("plan(1, 1, 1)", x.plan(1, 1, 1), -1);
        due("plan(1, 1, 40)", x.plan(1, 1, 40), -1);
        check.about(39, "no STEP i 41 or -1");
        due("plan(40, 1, 41)", x.plan(40, 1, 41), -2);
        due("plan(40, 1, -1)", x.plan(40, 1, -1), -2);
        due("though there is no plan", x.plan(0, 1, 41), -2);
        check.about(39, "no STEP 41 or -1");
        due("plan(41, 1, 0)", x.plan(41, 1, 0), -2);
        due("plan(-1, 1, 0)", x.plan(-1, 1, 0), -2);
        check.about(39, "no TONE 2 or -1");
        due("plan(1, 2, 0)", x.plan(1, 2, 0), -2);
        due("plan(1, -1, 0)", x.plan(1, -1, 0), -2);
        check.about(39, "there is no PLAN");
        due("plan(0, 1, 0)", x.plan(0, 1, 0), -1);
        due("plan(0, 1, 40)", x.plan(0, 1, 40), -1);
        due("though there are STEPS ahead", Check.of(Stations.NOTES).plan(40, 8, 0), -1);
        due("though there are STEPS ahead", Check.of(Stations.NOTES).plan(40, 8, 39), -1);
        check.about(39, "LAST is 0 ahead of STEP 0");
        due("plan(1, 1, 0)", Check.of("station tones 3 a 1 b 1 c 0 d 0 odds 0;gap;").plan(1, 1, 0), 1);
        check.about(39, "ANSWER goes on unspoken: 1 2 0 ..");
        IntervalSignal counts = Check.of("station tones 3 a 0 b 1 c 1 d 0 odds 0;gap;");
        due("plan(3, 2, 2)", counts.plan(3, 2, 2), 1);
        due("plan(3, 2, 1)", counts.plan(3, 2, 1), -1);
        due("plan(3, 1, 2)", counts.plan(3, 1, 2), -1);
        check.about(39, "nothing is needed");
        due("plan(0, 0, 0)", x.plan(0, 0, 0), -1);
        due("plan(40, 0, 39)", x.plan(40, 0, 39), -1);
        check.about(39, "acts aside");
        x.speak(39, 0);
        x.speak(20, 1);
        due("plan(40, 1, 39)", x.plan(40, 1, 39), 1);
        due("plan(40, 1, 20)", x.plan(40, 1, 20), -1);
    }

    /** HEARD at STEP 2, a gap: 2 LAST and 3 ANSWER modulo 6. 5 asks for an odd ANSWER and LAST 1 or 4. */
    private void plannedRowIsTheLeast() {
        IntervalSignal x = Check.of("station tones 6 a 2 b 3 c 0 d 0 odds 0;note 0;gap;gap;");
        check.about(39, "two words, of each the least");
        due("needs(2, 5)", x.needs(2, 5), 2);
        due("plan(2, 5, 0)", x.plan(2, 5, 0), 1);
        due("plan(2, 5, 1)", x.plan(2, 5, 1), 1);
        check.about(39, "two words as late as they can be, STEPS 3 and 4");
        int[] row = {-1, -1, -1, 1, 1, -1};
        for (int i = 0; i < row.length; i++) {
            due("plan(5, 5, " + i + ")", x.plan(5, 5, i), row[i]);
        }
        check.about(39, "a word, and what is heard behind it unspoken");
        // a word over the note makes LAST 1, then the gap says 1 again as ANSWER, and the next one both: 2
        IntervalSignal both = Check.of("station tones 5 a 1 b 1 c 0 d 0 odds 0;note 0;gap;gap;");
        due("needs(2, 2)", both.needs(2, 2), 1);
        due("a word over the gap alone", both.plan(2, 2, 0), -1);
        due("a word over the gap alone", both.plan(2, 2, 1), 2);
        IntervalSignal tripled = Check.of("station tones 6 a 2 b 0 c 1 d 0 odds 0;note 0;gap;note 0;");
        // STEP 1 says 2 LAST and 1: 3 for LAST 1 and 4
        due("plan(1, 3, 0)", tripled.plan(1, 3, 0), 1);
        due("plan(4, 5, 3)", tripled.plan(4, 5, 3), 2);
        due("plan(4, 5, 0)", tripled.plan(4, 5, 0), -1);
        check.about(39, "the least word, 0");
        // LAST 0 behind a note 1 takes a word over the note alone
        IntervalSignal y = Check.of("station tones 3 a 1 b 0 c 0 d 0 odds 0;note 1;gap;");
        due("plan(1, 0, 0)", y.plan(1, 0, 0), 0);
        check.about(39, "the largest word");
        due("plan(1, 2, 0)", y.plan(1, 2, 0), 2);
        check.about(39, "of words that do as well the least");
        // 3 LAST modulo 6 is 3 for LAST 1, 3 and 5
        IntervalSignal z = Check.of("station tones 6 a 3 b 0 c 0 d 0 odds 0;note 0;gap;");
        due("plan(1, 3, 0)", z.plan(1, 3, 0), 1);
    }

    private void quietWords() {
        IntervalSignal x = Check.of(Stations.SAYS_AGAIN);
        check.about(40, "STEP 0 and STEP 40");
        due("quietly(0, 0)", x.quietly(0, 0), 0);
        due("quietly(0, 1)", x.quietly(0, 1), -1);
        due("quietly(1, 1)", x.quietly(1, 1), 1);
        due("quietly(40, 1)", x.quietly(40, 1), 1);
        check.about(40, "no STEP 41 or -1");
        due("quietly(41, 0)", x.quietly(41, 0), -2);
        due("quietly(-1, 0)", x.quietly(-1, 0), -2);
        check.about(40, "no TONE 2 or -1");
        due("quietly(1, 2)", x.quietly(1, 2), -2);
        due("quietly(1, -1)", x.quietly(1, -1), -2);
        check.about(40, "by none: no gap is ahead");
        IntervalSignal y = Check.of("station tones 3 a 1 b 0 c 0 d 0 odds 0;note 1;gap;");
        due("quietly(1, 0)", y.quietly(1, 0), -1);
        due("a word over the note would do", y.needs(1, 0), 1);
        due("quietly(39, 0)", y.quietly(39, 0), -1);
        check.about(40, "no gap at all");
        IntervalSignal notes = Check.of(Stations.NOTES);
        due("quietly(40, 0)", notes.quietly(40, 0), 0);
        due("quietly(40, 8)", notes.quietly(40, 8), -1);
        check.about(40, "acts aside");
        x.speak(39, 1);
        due("quietly(40, 0)", x.quietly(40, 0), 0);
    }

    private void mended() {
        IntervalSignal x = Check.of(Stations.SAYS_AGAIN);
        check.about(42, "STEP 0 and STEP 40");
        due("mend(0, 1)", x.mend(0, 1), 1);
        due("mend(40, 1)", x.mend(40, 1), 1);
        check.about(42, "none: it is heard anyway");
        due("mend(0, 0)", x.mend(0, 0), 0);
        due("mend(40, 0)", x.mend(40, 0), 0);
        check.about(42, "none: it is forgotten");
        due("mend(0, 1)", Check.of(Stations.PIPS).mend(0, 1), 0);
        check.about(42, "as they were without any: what is HEARD anyway, asked first");
        due("mend(0, 2)", Check.of(Stations.A).mend(0, 2), 0);
        due("mend(0, 3)", Check.of(Stations.A).mend(0, 3), 1);
        due("mend(40, 2)", Check.of(Stations.A).mend(40, 2), 0);
        due("mend(1, 3)", Check.of(Stations.A).mend(1, 3), 0);
        check.about(42, "as it was ahead of STEP 60 first");
        // these three were found by a search in another program
        String to60 = "station tones 8 a 5 b 6 c 4 d 0 odds 0;note 2;note 6;note 4;note 6;note 2;gap;";
        due("mend(40, 1)", Check.of(to60).mend(40, 1), 0);
        check.about(42, "as it was ahead of STEP 61 first: beyond 60");
        String to61 = "station tones 8 a 1 b 2 c 6 d 6 odds 0;note 6;note 0;note 6;note 3;gap;gap;note 4;";
        due("mend(40, 0)", Check.of(to61).mend(40, 0), 1);
        String to0 = "station tones 8 a 1 b 3 c 2 d 3 odds 0;note 0;note 0;note 6;gap;gap;gap;";
        due("LAST and ANSWER are 0 then", Check.of(to0).mend(40, 1), 1);
        check.about(42, "whatever was asked before");
        IntervalSignal asked = Check.of(Stations.A);
        due("another night was heard", asked.shift(0, 3), 61);
        due("mend(0, 2)", asked.mend(0, 2), 0);
        check.about(42, "no STEP 41 or -1");
        due("mend(41, 0)", x.mend(41, 0), -2);
        due("mend(-1, 0)", x.mend(-1, 0), -2);
        check.about(42, "no TONE 2 or -1");
        due("mend(0, 2)", x.mend(0, 2), -2);
        due("mend(0, -1)", x.mend(0, -1), -2);
        check.about(42, "acts else aside");
        x.speak(0, 1);
        x.speak(1, 0);
        due("mend(0, 1)", x.mend(0, 1), 1);
        due("mend(0, 0)", x.mend(0, 0), 0);
        due("nothing is taken back", x.count(8), 2);
    }

    private void withoutSigns() {
        IntervalSignal n = Check.of(Stations.N);
        n.speak(0, 3);
        check.about(31, "no SIGNS");
        due("reach(0)", n.reach(0), 0);
        due("reach(40)", n.reach(40), 0);
        due("reach(41)", n.reach(41), -2);
        check.about(38, "no SIGNS");
        due("needs(0, 0)", n.needs(0, 0), -1);
        due("needs(40, 3)", n.needs(40, 3), -1);
        due("needs(40, 4)", n.needs(40, 4), -2);
        check.about(39, "no SIGNS");
        due("plan(40, 3, 0)", n.plan(40, 3, 0), -1);
        due("plan(40, 3, 41)", n.plan(40, 3, 41), -2);
        check.about(40, "no SIGNS");
        due("quietly(40, 3)", n.quietly(40, 3), -1);
        due("quietly(41, 3)", n.quietly(41, 3), -2);
        check.about(42, "no SIGNS: LAST and ANSWER are 0 as without");
        due("mend(0, 3)", n.mend(0, 3), 0);
        due("mend(40, 0)", n.mend(40, 0), 0);
        due("mend(41, 0)", n.mend(41, 0), -2);
        check.about(60, "no SIGNS: spoken it is");
        due("speak(60, 3)", n.speak(60, 3), -1);
        due("speak(60, 0)", n.speak(60, 0), 3);
        due("spoken(60)", n.spoken(60), 0);
        due("nothing is heard", n.heard(60), -1);
        due("speak(0, 4)", n.speak(0, 4), -2);
    }

    private void thirtyActs() {
        IntervalSignal x = Check.of(Stations.A);
        check.about(60, "30 acts");
        for (int k = 0; k < 30; k++) {
            due("act " + k, x.speak(k, 4), -1);
        }
        due("acts", x.count(8), 30);
        check.about(60, "there were 30 acts");
        due("speak(30, 1)", x.speak(30, 1), -5);
        due("speak(0, 1)", x.speak(0, 1), -5);
        due("speak(0, -1)", x.speak(0, -1), -5);
        due("not spoken", x.spoken(30), -1);
        due("as it was", x.spoken(0), 4);
        due("acts", x.count(8), 30);
        check.about(60, "-2 ahead of -5");
        due("speak(61, 1)", x.speak(61, 1), -2);
        due("speak(-1, 1)", x.speak(-1, 1), -2);
        due("speak(0, 5)", x.speak(0, 5), -2);
        due("speak(0, -2)", x.speak(0, -2), -2);
        check.about(60, "29 acts again");
        due("undo", x.undo(), 29);
        due("speak(60, 0)", x.speak(60, 0), -1);
        due("acts", x.count(8), 30);
        due("speak(60, 1)", x.speak(60, 1), -5);
        check.about(62, "from 30 to none");
        for (int k = 29; k >= 0; k--) {
            due("undo", x.undo(), k);
        }
        due("none is left", x.undo(), -5);
        due("acts", x.count(8), 0);
        for (int k = 0; k < 30; k++) {
            due("spoken(" + k + ")", x.spoken(k), -1);
        }
        check.about(63, "30");
        for (int k = 0; k < 30; k++) {
            x.speak(60 - k, -1);
        }
        due("anew", x.anew(), 30);
        due("anew again", x.anew(), 0);
        due("undo", x.undo(), -5);
        due("speak", x.speak(0, 0), -1);
    }

    private void wordsSpoken() {
        IntervalSignal x = Check.of(Stations.A);
        check.about(60, "STEP 0 and STEP 60");
        due("speak(0, 0)", x.speak(0, 0), -1);
        due("speak(60, 4)", x.speak(60, 4), -1);
        check.about(60, "TONE 0 and TONE 4, and what was");
        due("speak(0, 4)", x.speak(0, 4), 0);
        due("speak(60, 0)", x.speak(60, 0), 4);
        check.about(60, "none such, and nothing happens");
        for (int step : new int[] {Integer.MIN_VALUE, -1, 61, 256, Integer.MAX_VALUE}) {
            due("speak(" + step + ", 1)", x.speak(step, 1), -2);
            due("speak(" + step + ", -1)", x.speak(step, -1), -2);
        }
        for (int tone : new int[] {Integer.MIN_VALUE, -2, 5, 255, Integer.MAX_VALUE}) {
            due("speak(0, " + tone + ")", x.speak(0, tone), -2);
        }
        due("acts", x.count(8), 4);
        due("spoken(0)", x.spoken(0), 4);
        check.about(60, "NONE: nothing more");
        due("speak(0, -1)", x.speak(0, -1), 4);
        due("nothing", x.spoken(0), -1);
        due("heard", x.heard(0), 2);
        due("an act as others", x.count(8), 5);
        check.about(60, "NONE where nothing was");
        due("speak(30, -1)", x.speak(30, -1), -1);
        due("an act as others", x.count(8), 6);
        check.about(61, "STEP 0 and STEP 60");
        due("spoken(0)", x.spoken(0), -1);
        due("spoken(60)", x.spoken(60), 0);
        check.about(61, "no STEP 61 or -1");
        due("spoken(61)", x.spoken(61), -2);
        due("spoken(-1)", x.spoken(-1), -2);
        check.about(61, "no STATION");
        due("spoken(0)", new IntervalSignal().spoken(0), -2);
        check.about(60, "no STATION");
        due("speak(0, 0)", new IntervalSignal().speak(0, 0), -2);
        due("speak(0, -1)", new IntervalSignal().speak(0, -1), -2);
    }

    private void takenBack() {
        IntervalSignal x = Check.of(Stations.A);
        check.about(62, "there is none");
        due("undo", x.undo(), -5);
        due("acts", x.count(8), 0);
        check.about(63, "there were none");
        due("anew", x.anew(), 0);
        x.speak(5, 1);
        x.speak(5, 2);
        x.speak(5, -1);
        x.speak(5, -1);
        check.about(62, "what was spoken ahead of it is spoken again");
        due("undo", x.undo(), 3);
        due("spoken(5)", x.spoken(5), -1);
        due("undo", x.undo(), 2);
        due("spoken(5)", x.spoken(5), 2);
        due("undo", x.undo(), 1);
        due("spoken(5)", x.spoken(5), 1);
        due("undo", x.undo(), 0);
        due("spoken(5)", x.spoken(5), -1);
        due("undo", x.undo(), -5);
        check.about(62, "a refused word is no act");
        x.speak(5, 1);
        x.speak(61, 1);
        x.speak(5, 7);
        due("undo", x.undo(), 0);
        due("undo", x.undo(), -5);
        check.about(63, "one");
        x.speak(60, 1);
        due("anew", x.anew(), 1);
        due("spoken(60)", x.spoken(60), -1);
        due("acts", x.count(8), 0);
        check.about(62, "no STATION ahead of none");
        due("undo", new IntervalSignal().undo(), -2);
        check.about(63, "no STATION");
        due("anew", new IntervalSignal().anew(), -2);
        check.about(62, "a STATION anew has none");
        x.speak(60, 1);
        Check.tell(x, Stations.B);
        x.station();
        due("undo", x.undo(), -5);
    }

    private void tunes() {
        IntervalSignal x = Check.of(Stations.A);
        check.about(66, "c 0 and c 4");
        due("tune(0)", x.tune(0), 1);
        due("c", x.count(3), 0);
        due("tune(4)", x.tune(4), 0);
        due("c", x.count(3), 4);
        check.about(66, "none such, and nothing happens");
        for (int n : new int[] {Integer.MIN_VALUE, -2, -1, 5, 9, 256, Integer.MAX_VALUE}) {
            due("tune(" + n + ")", x.tune(n), -2);
        }
        due("c", x.count(3), 4);
        check.about(66, "there are acts, and nothing happens");
        x.speak(0, -1);
        due("tune(0)", x.tune(0), -5);
        due("as it is", x.tune(4), -5);
        due("c", x.count(3), 4);
        check.about(66, "-2 ahead of -5");
        due("tune(5)", x.tune(5), -2);
        due("tune(-1)", x.tune(-1), -2);
        check.about(66, "acts that are taken back");
        x.undo();
        due("tune(0)", x.tune(0), 4);
        x.speak(0, 1);
        x.speak(0, 2);
        x.undo();
        due("one is not", x.tune(1), -5);
        x.anew();
        due("all are", x.tune(1), 0);
        check.about(66, "the largest c of nine");
        IntervalSignal y = Check.of(Stations.FULL);
        due("tune(8)", y.tune(8), 8);
        due("tune(9)", y.tune(9), -2);
        check.about(66, "no STATION");
        due("tune(0)", new IntervalSignal().tune(0), -2);
        check.about(66, "no SIGNS");
        due("tune(3)", Check.of(Stations.N).tune(3), 0);
    }
}
