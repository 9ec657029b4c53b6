/** Boundary cases of promises 8 to 30, 41, 53 and 54, and of terms II and III: what is heard, and pips. */
final class NightBounds {
    private final Check check;

    private NightBounds(Check check) {
        this.check = check;
    }

    static void run(Check check) {
        NightBounds bounds = new NightBounds(check);
        bounds.signsGoRound();
        bounds.aheadOfTheFirstStep();
        bounds.atTheLastStep();
        bounds.largestSums();
        bounds.withoutSigns();
        bounds.gapsAndPips();
        bounds.tonesFromFirstToLast();
        bounds.mostOfSeveral();
        bounds.neighbours();
        bounds.echoes();
        bounds.wordsBesides();
        bounds.wordsBesidesWithoutSigns();
        bounds.worstWords();
        bounds.soonerPips();
        bounds.lawsWithMostPips();
        bounds.tunedLaws();
        bounds.clocks();
        bounds.coolSteps();
    }

    private void due(String call, long got, long want) {
        check.due(call, got, want);
    }

    private void signsGoRound() {
        check.about(8, "SIGN n modulo how many there are: 8");
        IntervalSignal x = Check.of("station tones 9 a 0 b 0 c 0 d 0 odds 0;"
                + "note 0;note 1;note 2;note 3;note 4;note 5;note 6;note 7;");
        for (int step = 0; step <= 60; step++) {
            due("heard(" + step + ")", x.heard(step), step % 8);
        }
        check.about(8, "SIGN n modulo how many there are: 1");
        x = Check.of("station tones 9 a 0 b 0 c 0 d 0 odds 0;note 8;");
        for (int step = 0; step <= 60; step++) {
            due("heard(" + step + ")", x.heard(step), 8);
        }
        check.about(8, "SIGN n modulo how many there are: 3, POSTS aside");
        x = Check.of("station tones 9 a 0 b 0 c 0 d 0 odds 0;post at 1;note 2;post at 1;note 5;post at 1;note 7;");
        due("heard(2)", x.heard(2), 7);
        due("heard(3)", x.heard(3), 2);
        due("heard(59)", x.heard(59), 7);
        due("heard(60)", x.heard(60), 2);
    }

    private void aheadOfTheFirstStep() {
        IntervalSignal x = Check.of(Stations.A);
        x.speak(0, 4);
        check.about(9, "0 ahead of STEP 0, whatever is spoken at it");
        due("last(0)", x.last(0), 0);
        due("last(1)", x.last(1), 4);
        IntervalSignal y = Check.of(Stations.NEVER);
        y.speak(0, 2);
        check.about(10, "0 ahead of STEP 0, whatever is spoken at it");
        due("answer(0)", y.answer(0), 0);
        due("answer(1)", y.answer(1), 2);
        check.about(9, "a word at a gap is not LAST");
        due("last(1)", y.last(1), 0);
        check.about(10, "a word at a note is not ANSWER");
        due("answer(1)", x.answer(1), 0);
        check.about(8, "a gap at STEP 0 has LAST and ANSWER 0");
        due("c alone", Check.of("station tones 9 a 8 b 8 c 7 d 8 odds 0;gap;").heard(0), 7);
        check.about(8, "a note at STEP 0 has ANSWER 0");
        due("the note alone", Check.of("station tones 9 a 8 b 8 c 7 d 8 odds 0;note 6;").heard(0), 6);
    }

    private void atTheLastStep() {
        IntervalSignal x = Check.of(Stations.A);
        check.about(8, "STEP 60 is the last");
        due("heard(60)", x.heard(60), 0);
        due("heard(61)", x.heard(61), -2);
        x.speak(60, 4);
        due("heard(60)", x.heard(60), 4);
        check.about(9, "ahead of STEP 60 a word at it is not LAST");
        due("last(60)", x.last(60), 1);
        x.speak(58, 3);
        due("one at 58 is", x.last(60), 3);
        check.about(10, "ahead of STEP 60 a word at 59 is ANSWER");
        x.speak(59, 1);
        due("answer(60)", x.answer(60), 1);
        due("answer(59)", x.answer(59), 3);
        x = Check.of(Stations.NEVER);
        x.speak(60, 0);
        due("a word at 60 is not", x.answer(60), 2);
    }

    private void largestSums() {
        IntervalSignal x = Check.of("station tones 9 a 8 b 8 c 8 d 8 odds 0;note 8;gap;gap;");
        x.speak(1, 8);
        check.about(8, "8 times 8, 8 times 8, and 8, modulo 9");
        due("heard(2)", x.heard(2), 1);
        x.speak(2, 8);
        check.about(8, "8 and 8 times 8, modulo 9");
        due("heard(3)", x.heard(3), 0);
        x = Check.of("station tones 2 a 1 b 1 c 1 d 1 odds 0;note 1;gap;gap;");
        // LAST 1: 1 and 0 and 1 is 0, then 1 and 0 and 1 is 0, then note 1; a word 1 at 1 makes 1 at 2
        check.about(8, "modulo 2");
        due("heard(1)", x.heard(1), 0);
        x.speak(1, 1);
        due("heard(2)", x.heard(2), 1);
        due("heard(3)", x.heard(3), 0);
    }

    private void withoutSigns() {
        IntervalSignal n = Check.of(Stations.N);
        for (int spoken = 0; spoken < 2; spoken++) {
            String when = spoken == 0 ? "no SIGNS" : "no SIGNS, though spoken";
            for (int step = 0; step <= 60; step += 30) {
                check.about(8, when);
                due("heard", n.heard(step), -1);
                check.about(9, when);
                due("last", n.last(step), 0);
                check.about(10, when);
                due("answer", n.answer(step), 0);
                check.about(11, when);
                due("gaps", n.gaps(step), 0);
                check.about(12, when);
                due("pips", n.pips(step), 0);
                check.about(16, when);
                due("all", n.all(step), 0);
                check.about(20, when);
                due("unlike", n.unlike(step), 0);
                check.about(24, when);
                due("echo", n.echo(step), -1);
            }
            withoutSignsInAll(n, when);
            n.speak(0, 0);
            n.speak(30, 3);
            n.speak(60, 3);
        }
        check.about(8, "no SIGNS, and no such STEP");
        due("heard(61)", n.heard(61), -2);
        due("heard(-1)", n.heard(-1), -2);
    }

    private void withoutSignsInAll(IntervalSignal n, String when) {
        check.about(13, when);
        due("wed", n.wed(), -1);
        check.about(14, when);
        due("first(0)", n.first(0), -1);
        due("first(3)", n.first(3), -1);
        due("first(4)", n.first(4), -2);
        check.about(15, when);
        due("often(0, 60)", n.often(0, 60), 0);
        due("often(3, 60)", n.often(3, 60), 0);
        check.about(17, when);
        due("most", n.most(), -1);
        check.about(18, when);
        due("held", n.held(), 0);
        check.about(19, when);
        due("rises", n.rises(), 0);
        check.about(21, when);
        due("falls", n.falls(), 0);
        check.about(22, when);
        due("leap", n.leap(), 0);
        check.about(23, when);
        due("when(0)", n.when(0), -1);
        due("when(60)", n.when(60), -1);
        due("when(61)", n.when(61), -2);
    }

    private void gapsAndPips() {
        IntervalSignal pips = Check.of(Stations.PIPS);
        IntervalSignal notes = Check.of(Stations.NOTES);
        IntervalSignal never = Check.of(Stations.NEVER);
        check.about(11, "gaps alone: in STEP 0 one, to STEP 60 61");
        due("gaps(0)", pips.gaps(0), 1);
        due("gaps(60)", pips.gaps(60), 61);
        check.about(11, "no gap");
        due("gaps(60)", notes.gaps(60), 0);
        check.about(11, "the STEP itself is counted");
        due("gaps(59)", never.gaps(59), 30);
        due("gaps(60)", never.gaps(60), 31);
        check.about(12, "at every STEP, STEP 0 and 60 too");
        due("pips(0)", pips.pips(0), 1);
        due("pips(59)", pips.pips(59), 60);
        due("pips(60)", pips.pips(60), 61);
        check.about(12, "none");
        due("pips(60)", never.pips(60), 0);
        due("no gap", notes.pips(60), 0);
        check.about(12, "a note that is LAST is none");
        due("pips(60)", Check.of("station tones 2 a 0 b 0 c 0 d 0 odds 0;note 0;").pips(60), 0);
        check.about(13, "at STEP 0");
        due("wed", pips.wed(), 0);
        check.about(13, "none");
        due("wed", never.wed(), -1);
        check.about(23, "PIP 60 is at STEP 60, if each STEP has one");
        due("when(0)", pips.when(0), 0);
        due("when(60)", pips.when(60), 60);
        due("when(61)", pips.when(61), -2);
        due("when(-1)", pips.when(-1), -2);
        check.about(23, "not so many");
        due("when(0)", never.when(0), -1);
        pips.speak(60, 1);
        due("when(59)", pips.when(59), 59);
        due("when(60)", pips.when(60), -1);
        never.speak(60, 1);
        check.about(13, "at STEP 60 alone");
        due("wed", never.wed(), 60);
        check.about(12, "at STEP 60 alone");
        due("pips(59)", never.pips(59), 0);
        due("pips(60)", never.pips(60), 1);
        check.about(23, "at STEP 60 alone");
        due("when(0)", never.when(0), 60);
        due("when(1)", never.when(1), -1);
    }

    private void tonesFromFirstToLast() {
        IntervalSignal x = Check.of(Stations.A);
        IntervalSignal notes = Check.of(Stations.NOTES);
        check.about(14, "the least and the largest TONE");
        due("first(0)", notes.first(0), 0);
        due("first(8)", notes.first(8), 1);
        due("first(9)", notes.first(9), -2);
        due("first(-1)", notes.first(-1), -2);
        check.about(14, "at none");
        due("first(7)", notes.first(7), -1);
        due("first(4)", x.first(4), -1);
        check.about(15, "the STEP itself is counted");
        due("often(8, 0)", notes.often(8, 0), 0);
        due("often(8, 1)", notes.often(8, 1), 1);
        due("often(0, 0)", notes.often(0, 0), 1);
        due("often(0, 59)", notes.often(0, 59), 30);
        due("often(0, 60)", notes.often(0, 60), 31);
        check.about(16, "bit 0 and bit 8");
        due("all(0)", notes.all(0), 1);
        due("all(1)", notes.all(1), 257);
        due("all(60)", notes.all(60), 257);
        check.about(20, "one and two");
        due("unlike(0)", notes.unlike(0), 1);
        due("unlike(1)", notes.unlike(1), 2);
        due("unlike(60)", notes.unlike(60), 2);
        x.speak(60, 4);
        check.about(14, "at STEP 60 alone");
        due("first(4)", x.first(4), 60);
        check.about(15, "at STEP 60 alone");
        due("often(4, 59)", x.often(4, 59), 0);
        due("often(4, 60)", x.often(4, 60), 1);
        check.about(16, "at STEP 60 alone");
        due("all(59)", x.all(59), 15);
        due("all(60)", x.all(60), 31);
        check.about(20, "at STEP 60 alone");
        due("unlike(59)", x.unlike(59), 4);
        due("unlike(60)", x.unlike(60), 5);
        IntervalSignal all = Check.of(Stations.LONG_ROUND);
        check.about(16, "all nine");
        due("all(7)", all.all(7), 510);
        due("all(8)", all.all(8), 511);
        due("all(60)", all.all(60), 511);
        check.about(20, "all nine");
        due("unlike(7)", all.unlike(7), 8);
        due("unlike(8)", all.unlike(8), 9);
    }

    private void mostOfSeveral() {
        IntervalSignal x = Check.of("station tones 4 a 0 b 0 c 0 d 0 odds 0;note 3;note 3;note 1;note 1;");
        check.about(17, "3 once more than 1");
        due("most", x.most(), 3);
        x.speak(60, 0);
        check.about(17, "the least of several");
        due("3 and 1 as often", x.most(), 1);
        x.speak(60, 1);
        due("1 once more than 3", x.most(), 1);
        check.about(17, "the least and the largest TONE");
        due("most", Check.of(Stations.PIPS).most(), 0);
        due("most", Check.of("station tones 9 a 0 b 0 c 0 d 0 odds 0;note 8;").most(), 8);
    }

    private void neighbours() {
        IntervalSignal pips = Check.of(Stations.PIPS);
        IntervalSignal notes = Check.of(Stations.NOTES);
        check.about(18, "all 61");
        due("held", pips.held(), 61);
        check.about(18, "no two");
        due("held", notes.held(), 1);
        check.about(19, "none");
        due("rises", pips.rises(), 0);
        check.about(21, "none");
        due("falls", pips.falls(), 0);
        check.about(22, "none");
        due("leap", pips.leap(), 0);
        check.about(19, "at all 60 pairs it rises or falls");
        due("rises", notes.rises(), 30);
        check.about(21, "at all 60 pairs it rises or falls");
        due("falls", notes.falls(), 30);
        check.about(22, "the greatest there is");
        due("leap", notes.leap(), 8);
        pips.speak(60, 1);
        check.about(18, "STEPS 0 .. 59");
        due("held", pips.held(), 60);
        check.about(19, "the last pair");
        due("rises", pips.rises(), 1);
        check.about(21, "not at the last pair");
        due("falls", pips.falls(), 0);
        check.about(22, "the last pair");
        due("leap", pips.leap(), 1);
        pips.undo();
        pips.speak(0, 1);
        check.about(18, "STEPS 1 .. 60");
        due("held", pips.held(), 60);
        check.about(19, "not at the first pair");
        due("rises", pips.rises(), 0);
        check.about(21, "the first pair");
        due("falls", pips.falls(), 1);
        check.about(22, "the first pair");
        due("leap", pips.leap(), 1);
        check.about(18, "the last two");
        notes.speak(60, 8);
        due("held", notes.held(), 2);
    }

    private void echoes() {
        IntervalSignal pips = Check.of(Stations.PIPS);
        check.about(24, "none is ahead of STEP 0");
        due("echo(0)", pips.echo(0), -1);
        check.about(24, "the last ahead");
        due("echo(1)", pips.echo(1), 0);
        due("echo(60)", pips.echo(60), 59);
        pips.speak(60, 1);
        check.about(24, "at none");
        due("echo(60)", pips.echo(60), -1);
        pips.speak(0, 1);
        check.about(24, "at STEP 0 alone");
        due("echo(60)", pips.echo(60), 0);
        check.about(24, "not at the STEP itself, nor behind it");
        due("echo(1)", pips.echo(1), -1);
    }

    private void wordsBesides() {
        IntervalSignal x = Check.of(Stations.SAYS_AGAIN);
        check.about(25, "at all 61 STEPS");
        due("shift(0, 1)", x.shift(0, 1), 61);
        check.about(25, "at the last alone");
        due("shift(60, 1)", x.shift(60, 1), 1);
        check.about(25, "at none: it is heard anyway");
        due("shift(0, 0)", x.shift(0, 0), 0);
        due("shift(60, 0)", x.shift(60, 0), 0);
        check.about(26, "never to 60");
        due("heals(0, 1)", x.heals(0, 1), -1);
        due("heals(59, 1)", x.heals(59, 1), -1);
        check.about(26, "at once, though not ahead of the next STEP");
        due("heals(0, 0)", x.heals(0, 0), 1);
        due("heals(59, 0)", x.heals(59, 0), 60);
        check.about(26, "there is no STEP behind 60");
        due("heals(60, 0)", x.heals(60, 0), -1);
        due("heals(60, 1)", x.heals(60, 1), -1);
        x.speak(60, 0);
        check.about(26, "from STEP 60 on");
        due("heals(0, 1)", x.heals(0, 1), 60);
        due("heals(59, 1)", x.heals(59, 1), 60);
        check.about(25, "to STEP 59");
        due("shift(0, 1)", x.shift(0, 1), 60);
        check.about(25, "in place of what is");
        due("shift(60, 1)", x.shift(60, 1), 1);
        x.speak(60, -1);
        x.speak(30, 0);
        due("shift(30, 1)", x.shift(30, 1), 31);
        due("shift(0, 1)", x.shift(0, 1), 30);
        check.about(26, "in place of what is");
        due("heals(30, 1)", x.heals(30, 1), -1);
        due("heals(29, 1)", x.heals(29, 1), 30);
        for (int k = x.count(8); k < 30; k++) {
            x.speak(1, -1);
        }
        check.about(25, "with 30 acts");
        due("shift(0, 1)", x.shift(0, 1), 30);
        check.about(26, "with 30 acts");
        due("heals(0, 1)", x.heals(0, 1), 30);
        check.about(25, "nothing is spoken by asking");
        due("spoken(0)", x.spoken(0), -1);
        due("acts", x.count(8), 30);
    }

    private void wordsBesidesWithoutSigns() {
        IntervalSignal n = Check.of(Stations.N);
        check.about(25, "no SIGNS");
        due("shift(0, 3)", n.shift(0, 3), 0);
        due("shift(60, 0)", n.shift(60, 0), 0);
        check.about(26, "no SIGNS: all is as now, nothing");
        due("heals(0, 3)", n.heals(0, 3), 1);
        due("heals(59, 3)", n.heals(59, 3), 60);
        due("heals(60, 3)", n.heals(60, 3), -1);
        check.about(27, "no SIGNS");
        due("worst(0)", n.worst(0), -1);
        due("worst(60)", n.worst(60), -1);
        check.about(41, "no SIGNS");
        due("sooner(0, 0)", n.sooner(0, 0), -1);
        due("sooner(60, 0)", n.sooner(60, 0), -1);
    }

    private void worstWords() {
        IntervalSignal b = Check.of(Stations.B);
        check.about(27, "the least of several");
        due("0 and 2 at two STEPS", b.worst(0), 0);
        due("0 and 2 at one STEP", b.worst(1), 0);
        due("at the last", b.worst(60), 0);
        b.speak(1, 0);
        check.about(27, "another than now");
        due("1 and 2 at one STEP", b.worst(1), 1);
        check.about(27, "the largest TONE");
        due("worst(0)", Check.of(Stations.SAYS_AGAIN).worst(0), 1);
        due("worst(60)", Check.of(Stations.SAYS_AGAIN).worst(60), 1);
    }

    private void soonerPips() {
        IntervalSignal x = Check.of(Stations.SAYS_AGAIN);
        check.about(41, "STEP 0");
        due("sooner(0, 0)", x.sooner(0, 0), 0);
        due("sooner(60, 1)", x.sooner(60, 1), 0);
        check.about(41, "none to 60");
        due("sooner(0, 1)", x.sooner(0, 1), -1);
        x.speak(60, 0);
        check.about(41, "STEP 60");
        due("sooner(0, 1)", x.sooner(0, 1), 60);
        IntervalSignal never = Check.of(Stations.NEVER);
        due("sooner(60, 1)", never.sooner(60, 1), 60);
        due("sooner(60, 2)", never.sooner(60, 2), -1);
        due("sooner(0, 0)", never.sooner(0, 0), 0);
        check.about(41, "nothing is spoken by asking");
        due("wed", never.wed(), -1);
    }

    private void lawsWithMostPips() {
        check.about(28, "the first of several: 0");
        due("gaps alone", Check.of(Stations.PIPS).pretty(), 0);
        due("all have none", Check.of(Stations.NOTES).pretty(), 0);
        check.about(28, "a at 1: no other law has a PIP in every gap");
        due("pretty", Check.of("station tones 9 a 0 b 0 c 0 d 0 odds 0;note 1;gap;note 8;gap;").pretty(), 100);
        check.about(28, "b and c at 1: an answer one above the one before");
        due("pretty", Check.of("station tones 3 a 0 b 0 c 0 d 0 odds 0;note 1;gap;note 2;gap;note 0;gap;").pretty(), 11);
        check.about(28, "no SIGNS: none has more than another");
        due("pretty", Check.of(Stations.N).pretty(), 0);
        check.about(28, "nothing spoken");
        IntervalSignal pips = Check.of(Stations.PIPS);
        for (int k = 0; k < 30; k++) {
            pips.speak(k, 1);
        }
        due("pretty", pips.pretty(), 0);
        check.about(29, "all of them");
        due("no gap, 9 tones", Check.of(Stations.NOTES).silent(), 729);
        due("no gap, 2 tones", Check.of("station tones 2 a 0 b 0 c 0 d 0 odds 0;note 0;").silent(), 8);
        check.about(29, "no SIGNS");
        due("4 tones", Check.of(Stations.N).silent(), 64);
        check.about(29, "nothing spoken");
        // LAST is 0: c 0 pips at STEP 0; c 1 does at STEP 1 with b 1, and never with b 0
        due("silent", pips.silent(), 2);
        due("spoken it stays", pips.spoken(29), 1);
    }

    private void tunedLaws() {
        check.about(30, "by none");
        due("no gap", Check.of(Stations.NOTES).tuned(), -1);
        check.about(30, "no SIGNS");
        due("tuned", Check.of(Stations.N).tuned(), -1);
        check.about(30, "the least and the largest c");
        due("c 0", Check.of(Stations.PIPS).tuned(), 0);
        due("c 8", Check.of("station tones 9 a 2 b 0 c 0 d 0 odds 0;note 1;gap;").tuned(), 8);
        check.about(30, "the least of several");
        IntervalSignal pips = Check.of(Stations.PIPS);
        pips.speak(0, 0);
        due("at STEP 0, whatever c is", pips.tuned(), 0);
        IntervalSignal x = Check.of(Stations.NEVER);
        for (int step = 0; step < 60; step += 2) {
            x.speak(step, 2);
        }
        check.about(30, "soonest at STEP 60, all other gaps spoken over");
        due("acts", x.count(8), 30);
        due("tuned", x.tuned(), 0);
        due("c stays", x.count(3), 1);
        due("wed", x.wed(), -1);
    }

    private void clocks() {
        IntervalSignal pips = Check.of(Stations.PIPS);
        IntervalSignal never = Check.of(Stations.NEVER);
        check.about(53, "STEP 0 and STEP 999");
        due("clock(0, 50)", never.clock(0, 50), 0);
        due("clock(999, 50)", never.clock(999, 50), 49950);
        due("clock(999, -50)", never.clock(999, -50), -49950);
        check.about(53, "no STEP -1 or 1000");
        due("clock(-1, 1)", never.clock(-1, 1), -1000000);
        due("clock(1000, 1)", never.clock(1000, 1), -1000000);
        check.about(53, "-50 .. 50 alone");
        due("clock(1, 50)", never.clock(1, 50), 50);
        due("clock(1, 51)", never.clock(1, 51), -1000000);
        due("clock(1, -50)", never.clock(1, -50), -50);
        due("clock(1, -51)", never.clock(1, -51), -1000000);
        due("clock(999, 0)", never.clock(999, 0), 0);
        check.about(53, "set right at STEP n, too");
        due("clock(0, 50)", pips.clock(0, 50), 0);
        due("clock(59, 50)", pips.clock(59, 50), 0);
        due("clock(60, 50)", pips.clock(60, 50), 0);
        check.about(53, "not set right beyond 60");
        due("clock(61, 50)", pips.clock(61, 50), 50);
        due("clock(61, -50)", pips.clock(61, -50), -50);
        due("clock(999, 1)", pips.clock(999, 1), 939);
        check.about(53, "a PIP at STEP 60 alone, acts as now");
        never.speak(60, 1);
        due("clock(59, 2)", never.clock(59, 2), 118);
        due("clock(60, 2)", never.clock(60, 2), 0);
        due("clock(61, 2)", never.clock(61, 2), 2);
        check.about(53, "no SIGNS");
        due("clock(999, -1)", Check.of(Stations.N).clock(999, -1), -999);
        check.about(53, "no STATION");
        due("clock(0, 0)", new IntervalSignal().clock(0, 0), -1000000);
    }

    private void coolSteps() {
        IntervalSignal pips = Check.of(Stations.PIPS);
        IntervalSignal never = Check.of(Stations.NEVER);
        check.about(54, "none is without");
        due("cool", pips.cool(), 0);
        check.about(54, "all 61 are without");
        due("cool", never.cool(), 61);
        check.about(54, "no SIGNS: no STEP has a PIP");
        due("cool", Check.of(Stations.N).cool(), 61);
        check.about(54, "a PIP at the first or the last STEP");
        never.speak(60, 1);
        due("cool", never.cool(), 60);
        never.undo();
        never.speak(0, 0);
        due("cool", never.cool(), 60);
        check.about(54, "the first or the last STEP is without");
        pips.speak(0, 1);
        due("cool", pips.cool(), 1);
        pips.undo();
        pips.speak(60, 1);
        due("cool", pips.cool(), 1);
        check.about(54, "no STATION");
        due("cool", new IntervalSignal().cool(), -2);
    }
}
