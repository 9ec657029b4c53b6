/** Every promise by itself, with answers worked out by hand (but for lateSteps). */
public final class PromiseTest {
    private static final String A = Stations.A;
    private static final String B = Stations.B;
    private static final String N = Stations.N;
    private static final int[] A_HEARD = {2, 3, 1, 3, 0, 2, 0, 0};
    private static final int[] A_LAST = {0, 2, 2, 1, 1, 0, 0, 0};
    private static final int[] A_ANSWER = {0, 0, 3, 3, 3, 3, 2, 2};

    private static final Check check = new Check();

    private static void part(int promise) {
        check.part("promise " + promise);
    }

    private static void due(String call, long got, long want) {
        check.due(call, got, want);
    }

    public static void main(String[] args) {
        tapeAndStation();
        faults();
        told();
        heardSteps();
        tonesOfNight();
        pairsOfSteps();
        pips();
        oneWordMore();
        otherLaws();
        rounds();
        plans();
        mends();
        lawsSeen();
        placesSeen();
        postsTold();
        parents();
        clocks();
        rivals();
        chances();
        acts();
        draws();
        tunes();
        counts();
        images();
        rows();
        pastes();
        check.close();
    }

    private static void tapeAndStation() {
        part(1);
        IntervalSignal x = new IntervalSignal();
        due("heard(0)", x.heard(0), -2);
        due("count(9)", x.count(9), 0);
        due("count(10)", x.count(10), 0);
        due("count(11)", x.count(11), 0);
        due("NONE", IntervalSignal.NONE, -1);
        part(2);
        due("feed", x.feed(0x73746174, 0x696f6e20, 0x746f6e65, 0x73203520, 0x61203120), 20);
        due("feed", x.feed(0x62203220, 0x63203120, 0x64203120, 0x6f646473, 0x20323b20), 40);
        due("station", x.station(), 1);
        due("count(0)", x.count(0), 5);
        due("count(2)", x.count(2), 2);
        for (int k = 1; k <= 25; k++) {
            due("feed", x.feed(-1, -1, -1, -1, -1), 20 * k);
        }
        due("feed beyond 500", x.feed(1, 2, 3, 4, 5), -1);
        due("bytes", x.count(10), 500);
        part(3);
        due("end(501)", x.end(501), -1);
        due("end(-1)", x.end(-1), -1);
        due("bytes", x.count(10), 500);
        due("end(500)", x.end(500), 500);
        due("end(481)", x.end(481), 481);
        due("feed at 481", x.feed(0, 0, 0, 0, 0), -1);
        due("end(480)", x.end(480), 480);
        due("feed at 480", x.feed(0, 0, 0, 0, 0), 500);
        due("end(0)", x.end(0), 0);
        due("end(1)", x.end(1), -1);
        due("end(0) again", x.end(0), 0);
        part(4);
        x = new IntervalSignal();
        Check.tell(x, A);
        due("station", x.station(), 7);
        due("tape is empty", x.count(10), 0);
        x.speak(0, 4);
        Check.tell(x, "note");
        due("faulty", x.station(), -4);
        due("tape stays", x.count(10), 4);
        due("lines stay", x.count(9), 7);
        due("acts stay", x.spoken(0), 4);
        x.end(0);
        Check.tell(x, B);
        due("another", x.station(), 3);
        due("tones", x.count(0), 3);
        due("posts gone", x.count(7), 0);
        due("nothing spoken", x.spoken(0), -1);
        due("no acts", x.count(8), 0);
        Check.tell(x, " \n ");
        due("blanks alone", x.station(), 0);
        due("no station", x.heard(0), -2);
        due("no tones", x.count(0), 0);
        due("tape is empty", x.count(10), 0);
    }

    private static void fault(String text, int kind, int place) {
        IntervalSignal x = new IntervalSignal();
        Check.tell(x, text);
        String shown = text.replace('\n', '/');
        due(shown + " station", x.station(), kind == 0 ? lines(text) : -4);
        due(shown + " fault(0)", x.fault(0), kind);
        due(shown + " fault(1)", x.fault(1), place);
        due(shown + " bytes", x.count(10), kind == 0 ? 0 : text.length());
    }

    private static int lines(String text) {
        int found = 0;
        for (int i = 0; i < text.length(); i++) {
            if (text.charAt(i) == ';') {
                found++;
            }
        }
        return found;
    }

    private static void faults() {
        part(5);
        IntervalSignal x = new IntervalSignal();
        due("ahead of any", x.fault(0), 0);
        due("ahead of any", x.fault(1), -1);
        due("another what", x.fault(2), -1);
        due("another what", x.fault(-1), -1);
        String head = "station tones 5 a 1 b 1 c 1 d 1 odds 0;";
        fault("", 0, -1);
        fault(head, 0, -1);
        fault("station\ntones 5a1b1c1d1odds0;gap;note 00000000000000000004 ;", 0, -1);
        fault("station tones 9 a 8 b 8 c 8 d 8 odds 10;note 8;post at 99;post at 0;", 0, -1);
        fault("station tones 2 a 1 b 0 c 0 d 0 odds 0;note 1;", 0, -1);
        fault("station tones 5;", 1, 15);
        fault("station tones 5 ", 1, 16);
        fault("station tones 1 a 0", 2, 14);
        fault("station tones 10 a 0", 2, 14);
        fault("station tones 99999999999999999999 a 0", 2, 14);
        fault("station tones 4294967301 a 0", 2, 14);
        fault("station tones 5 a 5 b", 2, 18);
        fault("station tones 5 a 1 b 5", 2, 22);
        fault("station tones 5 a 1 b 1 c 5", 2, 26);
        fault("station tones 5 a 1 b 1 c 1 d 5", 2, 30);
        fault("station tones 5 a 1 b 1 c 1 d 1 odds 11;", 2, 37);
        fault("station tones 5 b 1", 1, 16);
        fault("stations tones 5", 1, 0);
        fault("note 1;" + head, 1, 0);
        fault(";", 1, 0);
        fault("5", 1, 0);
        fault("  Station", 1, 2);
        fault(head.substring(0, 38), 1, 38);
        fault(head.substring(0, 38) + "  ", 1, 40);
        fault(head + head, 1, 39);
        fault(head + "note 5;", 2, 44);
        fault(head + "note gap;", 1, 44);
        fault(head + "note 1", 1, 45);
        fault(head + "note;", 1, 43);
        fault(head + "gap 1;", 1, 43);
        fault(head + ";", 1, 39);
        fault(head + "gaps;", 1, 39);
        fault(head + "gapz;", 1, 39);
        fault(head + "gapa;", 1, 39);
        fault(head + "gap{;", 1, 42);
        fault(head + "gap`;", 1, 42);
        fault(head + "note 1/;", 1, 45);
        fault(head + "note 1:;", 1, 45);
        fault(head + "post 1;", 1, 44);
        fault(head + "post at 100;", 2, 47);
        fault(head + "post at ;", 1, 47);
        fault(head + "gap;\tgap;", 1, 43);
        fault(head + "gap\0;", 1, 42);
        fault(head + "gap" + (char) 233 + ";", 1, 42);
        fault(head + "note 7 x", 2, 44);
        fault(head + "note -1;", 1, 44);
        String eight = head + "gap;gap;gap;gap;note 1;note 1;note 1;note 1;";
        fault(eight, 0, -1);
        fault(eight + "gap;", 3, eight.length());
        fault(eight + " note 9;", 3, eight.length() + 1);
        fault(eight + "post at 1;gap;", 3, eight.length() + 10);
        String five = head + "post at 1;post at 1;post at 1;post at 1;post at 1;";
        fault(five + "gap;", 0, -1);
        fault(five + "post at 1;", 3, five.length());
        fault(five + "post", 3, five.length());
        fault(eight + five.substring(head.length()), 0, -1);
        x = new IntervalSignal();
        Check.tell(x, "x");
        x.station();
        x.end(0);
        x.image(0);
        x.back(0);
        due("of the latest station", x.fault(0), 1);
        x.station();
        due("mended", x.fault(0), 0);
        due("mended", x.fault(1), -1);
    }

    private static void told() {
        IntervalSignal x = Check.of(A);
        part(6);
        due("sign(0)", x.sign(0), 2);
        due("sign(1)", x.sign(1), -1);
        due("sign(2)", x.sign(2), 3);
        due("sign(3)", x.sign(3), -1);
        due("sign(4)", x.sign(4), -2);
        due("sign(-1)", x.sign(-1), -2);
        due("none told", Check.of(N).sign(0), -2);
        due("no station", new IntervalSignal().sign(0), -2);
        part(7);
        due("post(0)", x.post(0), 10);
        due("post(1)", x.post(1), 20);
        due("post(2)", x.post(2), -2);
        due("post(-1)", x.post(-1), -2);
        due("none told", Check.of(B).post(0), -2);
        due("no station", new IntervalSignal().post(0), -2);
    }

    private static void heardSteps() {
        IntervalSignal x = Check.of(A);
        IntervalSignal n = Check.of(N);
        for (int step = 0; step <= 60; step++) {
            part(8);
            due("heard(" + step + ")", x.heard(step), A_HEARD[step % 8]);
            part(9);
            due("last(" + step + ")", x.last(step), A_LAST[step % 8]);
            part(10);
            due("answer(" + step + ")", x.answer(step), A_ANSWER[step % 8]);
            part(11);
            due("gaps(" + step + ")", x.gaps(step), (step + 1) / 2);
        }
        IntervalSignal none = new IntervalSignal();
        for (int wrong = 0; wrong < 2; wrong++) {
            int step = wrong == 0 ? -1 : 61;
            part(8);
            due("heard", x.heard(step), -2);
            due("heard", n.heard(step), -2);
            due("heard", none.heard(1), -2);
            part(9);
            due("last", x.last(step), -2);
            due("last", none.last(1), -2);
            part(10);
            due("answer", x.answer(step), -2);
            due("answer", none.answer(1), -2);
            part(11);
            due("gaps", x.gaps(step), -2);
            due("gaps", none.gaps(1), -2);
        }
        n.speak(3, 2);
        part(8);
        due("nothing", n.heard(0), -1);
        due("nothing, though spoken", n.heard(3), -1);
        x.speak(1, 0);
        due("spoken over a gap", x.heard(1), 0);
        due("a note hears the word", x.heard(2), 3);
        due("and the gap behind it", x.heard(3), 4);
        x.speak(2, 4);
        due("spoken over a note", x.heard(3), 0);
        part(9);
        due("last behind a word", x.last(3), 4);
        due("last stays at a gap", x.last(2), 2);
        due("no signs", n.last(4), 0);
        part(10);
        due("answer behind a word", x.answer(2), 0);
        due("answer stays at a note", x.answer(3), 0);
        due("no signs", n.answer(4), 0);
        part(11);
        due("spoken over they are gaps", x.gaps(3), 2);
        due("no signs", n.gaps(60), 0);
    }

    private static void tonesOfNight() {
        IntervalSignal x = Check.of(A);
        IntervalSignal b = Check.of(B);
        IntervalSignal n = Check.of(N);
        IntervalSignal none = new IntervalSignal();
        n.speak(0, 1);
        part(14);
        due("first(0)", x.first(0), 4);
        due("first(1)", x.first(1), 2);
        due("first(2)", x.first(2), 0);
        due("first(4)", x.first(4), -1);
        due("first(5)", x.first(5), -2);
        due("first(-1)", x.first(-1), -2);
        due("no signs", n.first(1), -1);
        due("no station", none.first(0), -2);
        part(15);
        due("often(3, 60)", x.often(3, 60), 16);
        due("often(0, 60)", x.often(0, 60), 22);
        due("often(3, 3)", x.often(3, 3), 2);
        due("often(3, 2)", x.often(3, 2), 1);
        due("often(4, 60)", x.often(4, 60), 0);
        due("often(5, 1)", x.often(5, 1), -2);
        due("often(-1, 1)", x.often(-1, 1), -2);
        due("often(1, 61)", x.often(1, 61), -2);
        due("often(1, -1)", x.often(1, -1), -2);
        due("no signs", n.often(1, 60), 0);
        due("no station", none.often(0, 0), -2);
        part(16);
        due("all(0)", x.all(0), 4);
        due("all(1)", x.all(1), 12);
        due("all(60)", x.all(60), 15);
        due("all(61)", x.all(61), -2);
        due("all(-1)", x.all(-1), -2);
        due("no signs", n.all(60), 0);
        due("no station", none.all(0), -2);
        part(17);
        due("most", x.most(), 0);
        due("most", b.most(), 1);
        due("the least of several", Check.of("station tones 4 a 0 b 0 c 3 d 0 odds 0;note 3;gap;note 1;note 1;").most(), 3);
        due("the least of several", Check.of("station tones 4 a 0 b 0 c 3 d 0 odds 0;note 1;gap;note 1;gap;gap;note 1;").most(), 1);
        due("no signs", n.most(), -1);
        due("no station", none.most(), -2);
        part(18);
        due("held", x.held(), 2);
        due("held", b.held(), 61);
        due("no signs", n.held(), 0);
        due("no station", none.held(), -2);
        part(20);
        due("unlike(0)", x.unlike(0), 1);
        due("unlike(3)", x.unlike(3), 3);
        due("unlike(60)", x.unlike(60), 4);
        due("unlike(61)", x.unlike(61), -2);
        due("unlike(-1)", x.unlike(-1), -2);
        due("no signs", n.unlike(60), 0);
        due("no station", none.unlike(0), -2);
        part(24);
        due("echo(0)", x.echo(0), -1);
        due("echo(1)", x.echo(1), -1);
        due("echo(3)", x.echo(3), 1);
        due("echo(5)", x.echo(5), 0);
        due("echo(7)", x.echo(7), 6);
        due("echo(60)", x.echo(60), 55);
        due("echo(61)", x.echo(61), -2);
        due("echo(-1)", x.echo(-1), -2);
        due("no signs", n.echo(5), -1);
        due("no station", none.echo(0), -2);
    }

    private static void pairsOfSteps() {
        IntervalSignal x = Check.of(A);
        IntervalSignal b = Check.of(B);
        IntervalSignal n = Check.of(N);
        IntervalSignal none = new IntervalSignal();
        n.speak(7, 3);
        part(19);
        due("rises", x.rises(), 30);
        due("rises", b.rises(), 0);
        due("no signs", n.rises(), 0);
        due("no station", none.rises(), -2);
        part(21);
        due("falls", x.falls(), 23);
        due("falls", b.falls(), 0);
        due("no signs", n.falls(), 0);
        due("no station", none.falls(), -2);
        part(22);
        due("leap", x.leap(), 3);
        due("leap", b.leap(), 0);
        due("no signs", n.leap(), 0);
        due("no station", none.leap(), -2);
        x.speak(60, 4);
        due("leap at the last", x.leap(), 3);
        part(19);
        due("rises at the last", x.rises(), 31);
        part(21);
        due("falls at the last", x.falls(), 22);
        part(22);
        x.speak(59, 0);
        due("leap at the last", x.leap(), 4);
    }

    private static void pips() {
        IntervalSignal x = Check.of(A);
        IntervalSignal b = Check.of(B);
        IntervalSignal n = Check.of(N);
        IntervalSignal none = new IntervalSignal();
        part(12);
        due("pips(6)", x.pips(6), 0);
        due("pips(7)", x.pips(7), 1);
        due("pips(60)", x.pips(60), 7);
        due("pips(60)", b.pips(60), 30);
        due("pips(61)", x.pips(61), -2);
        due("pips(-1)", x.pips(-1), -2);
        due("no signs", n.pips(60), 0);
        due("no station", none.pips(0), -2);
        due("ahead of any note", Check.of("station tones 5 a 1 b 0 c 0 d 0 odds 0;gap;note 2;").pips(0), 1);
        part(13);
        due("wed", x.wed(), 7);
        due("wed", b.wed(), 1);
        due("never", Check.of("station tones 3 a 1 b 0 c 1 d 0 odds 0;note 1;gap;").wed(), -1);
        due("no signs", n.wed(), -1);
        due("no station", none.wed(), -2);
        part(23);
        due("when(0)", x.when(0), 7);
        due("when(6)", x.when(6), 55);
        due("when(7)", x.when(7), -1);
        due("when(60)", x.when(60), -1);
        due("when(61)", x.when(61), -2);
        due("when(-1)", x.when(-1), -2);
        due("when(29)", b.when(29), 59);
        due("every step", Check.of("station tones 2 a 0 b 0 c 0 d 0 odds 0;gap;").when(60), 60);
        due("no signs", n.when(0), -1);
        due("no station", none.when(0), -2);
        part(54);
        due("cool", x.cool(), 7);
        due("cool", b.cool(), 1);
        due("cool", Check.of("station tones 2 a 0 b 0 c 0 d 0 odds 0;gap;").cool(), 0);
        due("no signs", n.cool(), 61);
        due("no station", none.cool(), -2);
        x.speak(1, 2);
        part(12);
        due("a word makes a pip", x.pips(1), 1);
        part(13);
        due("a word makes a pip", x.wed(), 1);
        part(23);
        due("a word makes a pip", x.when(0), 1);
        x.speak(0, 0);
        part(13);
        due("a word over a note is none", x.wed() == 1 ? 1 : 0, 0);
    }

    private static void oneWordMore() {
        IntervalSignal x = Check.of(A);
        IntervalSignal b = Check.of(B);
        IntervalSignal n = Check.of(N);
        IntervalSignal none = new IntervalSignal();
        part(25);
        due("shift(0, 2)", x.shift(0, 2), 0);
        due("shift(0, 3)", x.shift(0, 3), 61);
        due("shift(60, 1)", x.shift(60, 1), 1);
        due("shift(0, 2)", b.shift(0, 2), 2);
        due("shift(1, 2)", b.shift(1, 2), 1);
        due("shift(61, 1)", x.shift(61, 1), -2);
        due("shift(-1, 1)", x.shift(-1, 1), -2);
        due("shift(0, 5)", x.shift(0, 5), -2);
        due("shift(0, -1)", x.shift(0, -1), -2);
        due("no signs", n.shift(0, 1), 0);
        due("no station", none.shift(0, 0), -2);
        part(26);
        due("heals(0, 2)", b.heals(0, 2), 2);
        due("heals(0, 1)", b.heals(0, 1), 1);
        due("heals(59, 2)", b.heals(59, 2), 60);
        due("heals(60, 2)", b.heals(60, 2), -1);
        due("heals(60, 1)", b.heals(60, 1), -1);
        due("heals(0, 3)", x.heals(0, 3), -1);
        due("heals(58, 0)", x.heals(58, 0), -1);
        due("heals(61, 0)", x.heals(61, 0), -2);
        due("heals(-1, 0)", x.heals(-1, 0), -2);
        due("heals(0, 5)", x.heals(0, 5), -2);
        due("heals(0, -1)", x.heals(0, -1), -2);
        due("no signs", n.heals(0, 1), 1);
        due("no signs", n.heals(60, 1), -1);
        due("no station", none.heals(0, 0), -2);
        part(27);
        due("worst(0)", x.worst(0), 0);
        due("worst(4)", x.worst(4), 1);
        due("worst(0)", b.worst(0), 0);
        due("worst(61)", x.worst(61), -2);
        due("worst(-1)", x.worst(-1), -2);
        due("no signs", n.worst(0), -1);
        due("no station", none.worst(0), -2);
        part(41);
        due("sooner(1, 2)", x.sooner(1, 2), 1);
        due("sooner(1, 3)", x.sooner(1, 3), 7);
        due("sooner(7, 0)", x.sooner(7, 0), 7);
        due("sooner(7, 1)", x.sooner(7, 1) > 7 ? 1 : 0, 1);
        due("sooner(0, 0)", b.sooner(0, 0), 1);
        due("sooner(1, 0)", b.sooner(1, 0), 3);
        due("sooner(61, 0)", x.sooner(61, 0), -2);
        due("sooner(-1, 0)", x.sooner(-1, 0), -2);
        due("sooner(0, 5)", x.sooner(0, 5), -2);
        due("sooner(0, -1)", x.sooner(0, -1), -2);
        due("no signs", n.sooner(0, 0), -1);
        due("no station", none.sooner(0, 0), -2);
        due("nothing is spoken by it", x.spoken(1), -1);
        b.speak(1, 2);
        part(25);
        due("in place of what is", b.shift(1, 1), 1);
        due("as it is", b.shift(1, 2), 0);
        due("besides", b.shift(0, 2), 1);
        part(26);
        due("besides", b.heals(0, 2), 1);
        part(41);
        due("besides", b.sooner(3, 0), 5);
        due("besides", b.sooner(0, 2), 1);
        part(27);
        b.speak(1, 0);
        due("another than now", b.worst(1), 1);
    }

    private static void otherLaws() {
        IntervalSignal x = Check.of(A);
        IntervalSignal b = Check.of(B);
        IntervalSignal n = Check.of(N);
        IntervalSignal none = new IntervalSignal();
        part(28);
        due("copies the note", b.pretty(), 1);
        due("no signs", n.pretty(), 0);
        due("no station", none.pretty(), -2);
        due("a gap alone", Check.of("station tones 4 a 0 b 0 c 1 d 0 odds 0;gap;").pretty(), 0);
        due("two notes", Check.of("station tones 4 a 0 b 0 c 0 d 0 odds 0;note 1;gap;note 2;gap;").pretty(), 100);
        part(29);
        due("silent", b.silent(), 15);
        due("no signs", n.silent(), 64);
        due("notes alone", Check.of("station tones 4 a 0 b 0 c 1 d 0 odds 0;note 1;").silent(), 64);
        due("no station", none.silent(), -2);
        part(30);
        due("tuned", b.tuned(), 0);
        due("tuned", x.tuned(), 0);
        due("never", Check.of("station tones 4 a 0 b 0 c 1 d 0 odds 0;note 1;").tuned(), -1);
        due("no signs", n.tuned(), -1);
        due("no station", none.tuned(), -2);
        due("law stays", x.count(3), 1);
        b.speak(0, 2);
        due("acts as now", b.tuned(), 0);
        b.speak(1, 0);
        due("acts as now", b.tuned(), 0);
        due("behind the word", b.wed(), 3);
        part(28);
        due("nothing spoken", b.pretty(), 1);
        part(29);
        due("nothing spoken", b.silent(), 15);
        part(30);
        IntervalSignal y = Check.of("station tones 5 a 2 b 0 c 0 d 0 odds 0;note 1;gap;");
        due("c makes up for a", y.tuned(), 4);
        y.speak(0, 3);
        due("acts as now", y.tuned(), 2);
    }

    private static void rounds() {
        IntervalSignal x = Check.of(A);
        IntervalSignal b = Check.of(B);
        IntervalSignal n = Check.of(N);
        IntervalSignal none = new IntervalSignal();
        x.speak(0, 4);
        x.speak(5, 1);
        part(34);
        due("settles", x.settles(), 0);
        due("settles", b.settles(), 2);
        due("no signs", n.settles(), -1);
        due("no station", none.settles(), -2);
        part(35);
        due("round", x.round(), 8);
        due("round", b.round(), 2);
        due("no signs", n.round(), -1);
        due("no station", none.round(), -2);
        part(36);
        due("births", x.births(), 1);
        due("births", b.births(), 1);
        due("no signs", n.births(), -1);
        due("no station", none.births(), -2);
        part(35);
        IntervalSignal same = Check.of("station tones 3 a 0 b 1 c 1 d 0 odds 0;gap;gap;");
        due("signs by their numbers", same.round(), 6);
        part(36);
        due("signs by their numbers", same.births(), 2);
        part(34);
        due("signs by their numbers", same.settles(), 0);
        part(37);
        for (int step = 0; step < 70; step++) {
            due("far(" + step + ")", x.far(step), A_HEARD[step % 8]);
        }
        due("far(1000000001)", x.far(1000000001), 3);
        due("far(2000000000)", x.far(2000000000), 2);
        due("far(1999999999)", x.far(1999999999), 0);
        due("far(2000000001)", x.far(2000000001), -2);
        due("far(-1)", x.far(-1), -2);
        due("no signs", n.far(5), -1);
        due("no signs", n.far(-5), -2);
        due("no station", none.far(0), -2);
    }

    private static void plans() {
        IntervalSignal x = Check.of(A);
        IntervalSignal b = Check.of(B);
        IntervalSignal n = Check.of(N);
        IntervalSignal none = new IntervalSignal();
        x.speak(0, 4);
        part(31);
        due("reach(0)", x.reach(0), 4);
        due("reach(1)", x.reach(1), 31);
        due("reach(40)", x.reach(40), 31);
        due("reach(2)", b.reach(2), 2);
        due("reach(41)", x.reach(41), -2);
        due("reach(-1)", x.reach(-1), -2);
        due("no signs", n.reach(3), 0);
        due("no station", none.reach(0), -2);
        part(38);
        due("needs(0, 2)", x.needs(0, 2), 0);
        due("needs(0, 3)", x.needs(0, 3), -1);
        due("needs(1, 3)", x.needs(1, 3), 0);
        due("needs(1, 0)", x.needs(1, 0), 1);
        due("needs(2, 4)", x.needs(2, 4), 1);
        due("needs(2, 2)", b.needs(2, 2), -1);
        due("needs(41, 0)", x.needs(41, 0), -2);
        due("needs(-1, 0)", x.needs(-1, 0), -2);
        due("needs(0, 5)", x.needs(0, 5), -2);
        due("needs(0, -1)", x.needs(0, -1), -2);
        due("no signs", n.needs(3, 0), -1);
        due("no station", none.needs(0, 0), -2);
        part(39);
        due("plan(1, 0, 0)", x.plan(1, 0, 0), 4);
        due("plan(1, 0, 1)", x.plan(1, 0, 1), -1);
        due("plan(1, 3, 0)", x.plan(1, 3, 0), -1);
        due("none first", x.plan(2, 4, 0), -1);
        due("none first", x.plan(2, 4, 1), 1);
        due("plan(0, 3, 0)", x.plan(0, 3, 0), -1);
        due("plan(0, 3, 40)", x.plan(0, 3, 40), -1);
        due("plan(2, 4, 41)", x.plan(2, 4, 41), -2);
        due("plan(2, 4, -1)", x.plan(2, 4, -1), -2);
        due("plan(41, 4, 0)", x.plan(41, 4, 0), -2);
        due("plan(-1, 4, 0)", x.plan(-1, 4, 0), -2);
        due("plan(2, 5, 0)", x.plan(2, 5, 0), -2);
        due("plan(2, -1, 0)", x.plan(2, -1, 0), -2);
        due("no signs", n.plan(3, 0, 0), -1);
        due("no station", none.plan(0, 0, 0), -2);
        due("the latest word alone", x.plan(40, 1, 39) >= 0 ? 1 : 0, 1);
        IntervalSignal two = twoWords();
        int[] row = {-1, -1, -1, 1, 1, -1};
        for (int i = 0; i < row.length; i++) {
            due("two words at " + i, two.plan(5, 5, i), row[i]);
        }
        due("two words", two.plan(2, 5, 0), 1);
        due("two words", two.plan(2, 5, 1), 1);
        due("the least of the words", two.plan(2, 1, 0), 2);
        due("the least of the words", two.plan(2, 1, 1), 1);
        part(38);
        due("two words", two.needs(2, 5), 2);
        due("two words", two.needs(5, 5), 2);
        due("one word", two.needs(2, 2), 1);
        part(40);
        due("quietly(1, 3)", x.quietly(1, 3), 0);
        due("quietly(1, 0)", x.quietly(1, 0), -1);
        due("quietly(2, 4)", x.quietly(2, 4), 1);
        due("quietly(1, 2)", b.quietly(1, 2), -1);
        due("needs a note", b.needs(1, 2), 1);
        due("quietly(41, 0)", x.quietly(41, 0), -2);
        due("quietly(-1, 0)", x.quietly(-1, 0), -2);
        due("quietly(0, 5)", x.quietly(0, 5), -2);
        due("quietly(0, -1)", x.quietly(0, -1), -2);
        due("no signs", n.quietly(3, 0), -1);
        due("no station", none.quietly(0, 0), -2);
    }

    /** An odd TONE but 3 at STEP 2 asks for LAST and ANSWER both, as 2 LAST + 3 ANSWER modulo 6 is heard. */
    private static IntervalSignal twoWords() {
        return Check.of("station tones 6 a 2 b 3 c 0 d 0 odds 0;note 0;gap;gap;");
    }

    private static void mends() {
        part(42);
        IntervalSignal x = Check.of(A);
        IntervalSignal b = Check.of(B);
        IntervalSignal n = Check.of(N);
        IntervalSignal none = new IntervalSignal();
        due("mend(0, 2)", x.mend(0, 2), 0);
        due("mend(0, 3)", x.mend(0, 3), 1);
        due("mend(40, 3)", x.mend(40, 3), 1);
        due("heals by itself", b.mend(0, 2), 0);
        due("heals by itself", b.mend(1, 2), 0);
        due("mend(41, 0)", x.mend(41, 0), -2);
        due("mend(-1, 0)", x.mend(-1, 0), -2);
        due("mend(0, 5)", x.mend(0, 5), -2);
        due("mend(0, -1)", x.mend(0, -1), -2);
        due("no signs", n.mend(0, 1), 0);
        due("no station", none.mend(0, 0), -2);
        x.speak(1, 4);
        due("acts else aside", x.mend(0, 2), 0);
        due("acts else aside", x.mend(0, 3), 1);
    }

    private static void lawsSeen() {
        IntervalSignal b = Check.of(B);
        IntervalSignal n = Check.of(N);
        IntervalSignal none = new IntervalSignal();
        b.speak(1, 2);
        Check.fill(b, 0, 1, 1);
        Check.fill(b, 1);
        Check.fill(n, 0, 1, 1);
        Check.fill(n, 1);
        Check.fill(none, 0, 1, 1);
        part(43);
        due("a and c make 1 at once", b.laws(0), 9);
        due("all of them", b.laws(1), 27);
        due("has nothing", b.laws(2), -6);
        due("no slot", b.laws(4), -2);
        due("no slot", b.laws(-1), -2);
        due("no station", none.laws(0), -2);
        due("no station, and nothing", none.laws(1), -2);
        due("no signs", n.laws(0), 0);
        due("no signs, no numbers", n.laws(1), 64);
        part(44);
        due("first", b.law(0), 1);
        due("first of all", b.law(1), 0);
        due("has nothing", b.law(2), -6);
        due("no slot", b.law(4), -2);
        due("no station", none.law(0), -2);
        due("no signs", n.law(0), -1);
        part(45);
        due("step 3 tells b", b.ask(0), 3);
        due("step 1 first", b.ask(1), 1);
        due("has nothing", b.ask(2), -6);
        due("no slot", b.ask(4), -2);
        due("no station", none.ask(0), -2);
        due("no signs", n.ask(0), -1);
        due("no signs, no numbers", n.ask(1), -1);
        part(46);
        due("has nothing", b.leaves(2), -6);
        due("no slot", b.leaves(4), -2);
        due("no station", none.leaves(0), -2);
        due("left of 9", b.leaves(0), 3);
        due("left of 27", b.leaves(1), 9);
        due("no signs", n.leaves(0), 0);
        due("no signs, no numbers", n.leaves(1), 64);
        Check.fill(b, 0, 1, 1, 3, 2);
        part(43);
        due("b is 1", b.laws(0), 3);
        part(44);
        due("b is 1", b.law(0), 11);
        part(45);
        due("these go alike", b.ask(0), -1);
        part(46);
        due("as now", b.leaves(0), 3);
        Check.fill(b, 0, 0, 2);
        part(43);
        due("none", b.laws(0), 0);
        part(44);
        due("none", b.law(0), -1);
        part(45);
        due("none", b.ask(0), -1);
        part(46);
        due("none", b.leaves(0), 0);
        lateSteps();
        wrongRows(b);
    }

    /** Laws that go alike for long: looked for with the program, and the oracle answers the same. */
    private static void lateSteps() {
        IntervalSignal x = Check.of("station tones 5 a 4 b 2 c 3 d 0 odds 0;gap;note 3;note 2;note 0;gap;note 1;note 0;");
        Check.fill(x, 0, 20, 0, 43, 3, 28, 3);
        part(45);
        due("the last step", x.ask(0), 60);
        part(46);
        due("the last step", x.leaves(0), 5);
        part(43);
        due("before", x.laws(0), 25);
        x = Check.of("station tones 5 a 2 b 3 c 1 d 4 odds 0;gap;note 1;gap;note 0;note 4;note 0;note 4;gap;");
        Check.fill(x, 0, 36, 4, 40, 1);
        part(45);
        due("a late step", x.ask(0), 55);
        part(46);
        due("a late step", x.leaves(0), 1);
    }

    private static void wrongRows(IntervalSignal b) {
        long[][] wrong = {{1}, {1, 1, 2}, {61, 1}, {-1, 1}, {1, 3}, {1, -1}, {1, 1, 61, 0}};
        for (int k = 0; k < wrong.length; k++) {
            Check.fill(b, 3, wrong[k]);
            part(43);
            due("wrong row " + k, b.laws(3), -2);
            part(44);
            due("wrong row " + k, b.law(3), -2);
            part(45);
            due("wrong row " + k, b.ask(3), -2);
            part(46);
            due("wrong row " + k, b.leaves(3), -2);
        }
        part(43);
        Check.fill(b, 3, 60, 1);
        due("step 60", b.laws(3), 27);
        b.row(3, 3, 2);
        b.write(3, 0, 4294967296L);
        due("as long as it is", b.laws(3), -2);
        b.row(3, 0, 2);
        b.write(3, 0, 257);
        b.write(3, 1, 1);
        due("cut to a byte", b.laws(3), 9);
    }

    private static void placesSeen() {
        IntervalSignal x = Check.of(A);
        IntervalSignal b = Check.of(B);
        IntervalSignal none = new IntervalSignal();
        Check.fill(x, 0, 0, 100, 1, 110);
        Check.fill(x, 1);
        Check.fill(x, 2, 0, 5);
        Check.fill(b, 0, 0, 100);
        Check.fill(b, 1);
        Check.fill(none, 0, 0, 100);
        part(47);
        due("left of both", x.places(0), 11);
        due("all", x.places(1), 100);
        due("not sent ahead of 0", x.places(2), 11);
        due("has nothing", x.places(3), -6);
        due("no slot", x.places(4), -2);
        due("no slot", x.places(-1), -2);
        due("no such post", b.places(0), -2);
        due("no posts, no numbers", b.places(1), 100);
        due("no station", none.places(0), -2);
        due("no station, and nothing", none.places(1), -2);
        part(48);
        due("least", x.place(0), 0);
        due("least", x.place(1), 0);
        due("least", x.place(2), 5);
        due("has nothing", x.place(3), -6);
        due("no slot", x.place(4), -2);
        due("no station", none.place(0), -2);
        part(49);
        due("greatest", x.farther(0), 10);
        due("greatest", x.farther(1), 99);
        due("greatest", x.farther(2), 15);
        due("has nothing", x.farther(3), -6);
        due("no slot", x.farther(4), -2);
        due("no station", none.farther(0), -2);
        part(50);
        due("where each has its minute", x.set(0), 0);
        due("no numbers", x.set(1), -2);
        due("has nothing", x.set(3), -6);
        due("no slot", x.set(4), -2);
        due("no station", none.set(0), -2);
        due("places 5 to 15 go alike to 5 from 10 on", x.set(2), 0);
        someRows(x);
    }

    private static void someRows(IntervalSignal x) {
        Check.fill(x, 0, 0, 100, 1, 100);
        part(47);
        due("in the middle", x.places(0), 1);
        part(48);
        due("in the middle", x.place(0), 15);
        part(49);
        due("in the middle", x.farther(0), 15);
        part(50);
        due("one alone", x.set(0), -1);
        Check.fill(x, 0, 0, 100, 1, 131);
        part(47);
        due("none", x.places(0), 0);
        part(48);
        due("none", x.place(0), -1);
        part(49);
        due("none", x.farther(0), -1);
        part(50);
        due("none", x.set(0), -1);
        Check.fill(x, 0, 0, 110, 1, 100);
        part(47);
        due("right of both", x.places(0), 80);
        part(48);
        due("right of both", x.place(0), 20);
        part(49);
        due("right of both", x.farther(0), 99);
        part(50);
        due("right of all is best", x.set(0), 99);
        long[][] wrong = {{0}, {2, 100}, {-1, 100}, {0, 1000}, {0, -1}, {0, 5, 1}};
        for (int k = 0; k < wrong.length; k++) {
            Check.fill(x, 3, wrong[k]);
            part(47);
            due("wrong row " + k, x.places(3), -2);
            part(48);
            due("wrong row " + k, x.place(3), -2);
            part(49);
            due("wrong row " + k, x.farther(3), -2);
            part(50);
            due("wrong row " + k, x.set(3), -2);
        }
        Check.fill(x, 3, 0, 999, 0, 998);
        part(47);
        due("at two minutes", x.places(3), 0);
        Check.fill(x, 3, 0, 999, 0, 999);
        due("at the last minute", x.places(3), 100);
        Check.fill(x, 3, 0, 0);
        due("at the first minute", x.place(3), 10);
        part(50);
        Check.fill(x, 3, 0, 999);
        due("11 on either side", x.set(3), 89);
    }

    private static void postsTold() {
        IntervalSignal x = Check.of(A);
        IntervalSignal b = Check.of(B);
        IntervalSignal n = Check.of(N);
        IntervalSignal none = new IntervalSignal();
        part(32);
        due("spread(15)", x.spread(15), 0);
        due("spread(0)", x.spread(0), 10);
        due("spread(99)", x.spread(99), 10);
        due("spread(12)", x.spread(12), 6);
        due("one post", n.spread(9), 0);
        due("spread(100)", x.spread(100), -2);
        due("spread(-1)", x.spread(-1), -2);
        due("no posts", b.spread(0), -1);
        due("no posts", b.spread(100), -2);
        due("no station", none.spread(0), -2);
        part(33);
        due("10 or 79 on one side", x.blind(), 11 * 10 / 2 + 80 * 79 / 2);
        due("one post", n.blind(), 4950);
        due("no posts", b.blind(), 4950);
        due("ends", Check.of(N + "post at 10;").blind(), 4950);
        due("apart", Check.of(B + "post at 0;post at 99;").blind(), 0);
        due("three", Check.of(B + "post at 50;post at 0;post at 99;").blind(), 0);
        due("no station", none.blind(), -2);
    }

    private static void parents() {
        IntervalSignal x = Check.of("station tones 5 a 1 b 2 c 1 d 1 odds 2;gap;note 2;note 3;note 2;note 4;note 1;");
        IntervalSignal none = new IntervalSignal();
        part(51);
        due("parents(0)", x.parents(0), 3);
        due("parents(1)", x.parents(1), 2);
        due("parents(2)", x.parents(2), 1);
        due("parents(3)", x.parents(3), 2);
        due("parents(4)", x.parents(4), 1);
        due("parents(5)", x.parents(5), -2);
        due("parents(-1)", x.parents(-1), -2);
        due("no signs", Check.of(N).parents(0), 0);
        due("no station", none.parents(0), -2);
        due("alike", Check.of(B + "note 1;").parents(2), 0);
        part(52);
        due("parent(0)", x.parent(0), 12);
        due("parent(1)", x.parent(1), 14);
        due("parent(2)", x.parent(2), 24);
        due("parent(3)", x.parent(3), 15);
        due("parent(4)", x.parent(4), 25);
        due("parent(5)", x.parent(5), -2);
        due("parent(-1)", x.parent(-1), -2);
        due("no signs", Check.of(N).parent(0), -1);
        due("none", Check.of(A).parent(4), -1);
        due("no station", none.parent(0), -2);
    }

    private static void clocks() {
        part(53);
        IntervalSignal x = Check.of(A);
        due("clock(10, -20)", x.clock(10, -20), -60);
        due("clock(7, 50)", x.clock(7, 50), 0);
        due("clock(6, 50)", x.clock(6, 50), 300);
        due("clock(0, 50)", x.clock(0, 50), 0);
        due("clock(60, 10)", x.clock(60, 10), 50);
        due("clock(999, 1)", x.clock(999, 1), 944);
        due("clock(999, -50)", x.clock(999, -50), -47200);
        due("clock(1000, 1)", x.clock(1000, 1), -1000000);
        due("clock(-1, 1)", x.clock(-1, 1), -1000000);
        due("clock(0, 51)", x.clock(0, 51), -1000000);
        due("clock(0, -51)", x.clock(0, -51), -1000000);
        due("no signs", Check.of(N).clock(999, 50), 49950);
        due("no station", new IntervalSignal().clock(0, 0), -1000000);
        x.speak(1, 2);
        due("acts as now", x.clock(2, 10), 10);
        due("acts as now", x.clock(3, 10), 0);
    }

    private static void rivals() {
        IntervalSignal x = new IntervalSignal();
        part(55);
        due("rests", x.rests(), 0);
        part(56);
        int[][] has = {{4, 0, 0, 0}, {9, 3, -1, -1}, {6, 6, 0, -4}, {1, 1, 1, -5}};
        for (int i = 0; i <= 3; i++) {
            for (int j = 0; j <= 3; j++) {
                due("sounds(" + i + ", " + j + ")", x.sounds(i, j), has[i][j]);
            }
        }
        due("sounds(4, 0)", x.sounds(4, 0), -1000);
        due("sounds(0, 4)", x.sounds(0, 4), -1000);
        due("sounds(-1, 0)", x.sounds(-1, 0), -1000);
        due("sounds(0, -1)", x.sounds(0, -1), -1000);
        part(57);
        due("best(0)", x.best(0), 1);
        due("best(1)", x.best(1), 2);
        due("best(2)", x.best(2), 3);
        due("best(3)", x.best(3), 0);
        due("best(4)", x.best(4), -2);
        due("best(-1)", x.best(-1), -2);
        due("with a station", Check.of(A).best(1), 2);
    }

    private static void chances() {
        IntervalSignal x = Check.of(A);
        IntervalSignal b = Check.of(B);
        IntervalSignal n = Check.of(N);
        IntervalSignal none = new IntervalSignal();
        IntervalSignal gaps = Check.of("station tones 2 a 0 b 0 c 0 d 0 odds 1;gap;");
        IntervalSignal never = Check.of("station tones 2 a 0 b 0 c 0 d 0 odds 0;gap;");
        part(58);
        due("chance(0, 0)", x.chance(0, 0), 1);
        due("chance(0, 1)", x.chance(0, 1), 1);
        due("chance(3, 0)", x.chance(3, 0), 16);
        due("chance(3, 1)", x.chance(3, 1), 25);
        due("chance(17, 0)", x.chance(17, 0), 262144);
        due("chance(17, 1)", x.chance(17, 1), 1953125);
        due("all are lost", b.chance(1, 0), 0);
        due("all are lost", b.chance(1, 1), 1);
        due("none yet", b.chance(0, 0), 1);
        due("18 gaps", gaps.chance(17, 0), 150094635296999121L);
        due("18 gaps", gaps.chance(17, 1), 1000000000000000000L);
        due("none is lost", never.chance(17, 0), 1);
        due("none is lost", never.chance(17, 1), 1);
        due("chance(18, 0)", x.chance(18, 0), -2);
        due("chance(-1, 0)", x.chance(-1, 0), -2);
        due("chance(0, 2)", x.chance(0, 2), -2);
        due("chance(0, -1)", x.chance(0, -1), -2);
        due("no signs", n.chance(17, 0), 1);
        due("no station", none.chance(0, 0), -2);
        part(59);
        due("sure(80)", x.sure(80), 2);
        due("sure(81)", x.sure(81), 0);
        due("sure(64)", x.sure(64), 4);
        due("sure(65)", x.sure(65), 2);
        due("sure(100)", x.sure(100), 0);
        due("sure(0)", x.sure(0), 17);
        due("sure(13)", x.sure(13), 17);
        due("sure(14)", x.sure(14), 16);
        due("sure(1)", b.sure(1), 0);
        due("sure(0)", b.sure(0), 17);
        due("sure(15)", gaps.sure(15), 17);
        due("sure(16)", gaps.sure(16), 16);
        due("sure(90)", gaps.sure(90), 0);
        due("sure(91)", gaps.sure(91), -1);
        due("sure(100)", never.sure(100), 17);
        due("sure(101)", x.sure(101), -2);
        due("sure(-1)", x.sure(-1), -2);
        due("no signs", n.sure(100), 17);
        due("no station", none.sure(0), -2);
        x.speak(1, 3);
        x.speak(0, 3);
        part(58);
        due("a spoken one is never lost", x.chance(3, 0), 4);
        due("a spoken one is never lost", x.chance(3, 1), 5);
        part(59);
        due("a spoken one is never lost", x.sure(80), 4);
    }

    private static void acts() {
        IntervalSignal x = Check.of(A);
        IntervalSignal none = new IntervalSignal();
        part(60);
        due("speak(1, 3)", x.speak(1, 3), -1);
        due("speak(1, 4)", x.speak(1, 4), 3);
        due("speak(1, -1)", x.speak(1, -1), 4);
        due("speak(1, -1)", x.speak(1, -1), -1);
        due("acts", x.count(8), 4);
        due("speak(61, 0)", x.speak(61, 0), -2);
        due("speak(-1, 0)", x.speak(-1, 0), -2);
        due("speak(0, 5)", x.speak(0, 5), -2);
        due("speak(0, -2)", x.speak(0, -2), -2);
        due("acts", x.count(8), 4);
        due("speak(60, 4)", x.speak(60, 4), -1);
        due("heard(60)", x.heard(60), 4);
        due("no station", none.speak(0, 0), -2);
        part(61);
        due("spoken(1)", x.spoken(1), -1);
        due("spoken(60)", x.spoken(60), 4);
        due("spoken(61)", x.spoken(61), -2);
        due("spoken(-1)", x.spoken(-1), -2);
        due("no station", none.spoken(0), -2);
        part(62);
        due("undo", x.undo(), 4);
        due("spoken(60)", x.spoken(60), -1);
        due("undo", x.undo(), 3);
        due("undo", x.undo(), 2);
        due("spoken(1)", x.spoken(1), 4);
        due("undo", x.undo(), 1);
        due("spoken(1)", x.spoken(1), 3);
        due("undo", x.undo(), 0);
        due("spoken(1)", x.spoken(1), -1);
        due("undo", x.undo(), -5);
        due("no station", none.undo(), -2);
        part(63);
        due("anew", x.anew(), 0);
        x.speak(2, 2);
        x.speak(3, 2);
        due("anew", x.anew(), 2);
        due("spoken(2)", x.spoken(2), -1);
        due("acts", x.count(8), 0);
        due("no station", none.anew(), -2);
        part(60);
        for (int k = 0; k < 30; k++) {
            due("speak", x.speak(k, 1), -1);
        }
        due("a 31st act", x.speak(40, 1), -5);
        due("a 31st act", x.speak(0, -1), -5);
        due("first what there is not", x.speak(61, 1), -2);
        due("nothing happened", x.spoken(40), -1);
        due("nothing happened", x.spoken(0), 1);
        part(62);
        due("undo", x.undo(), 29);
        due("spoken(29)", x.spoken(29), -1);
        part(60);
        due("a 30th act", x.speak(40, 1), -1);
        part(63);
        due("anew", x.anew(), 30);
        due("spoken(0)", x.spoken(0), -1);
        part(62);
        due("undo", x.undo(), -5);
    }

    private static void draws() {
        IntervalSignal x = Check.of("station tones 5 a 1 b 2 c 1 d 1 odds 6;note 2;gap;note 3;gap;");
        IntervalSignal b = Check.of(B);
        IntervalSignal n = Check.of(N);
        IntervalSignal none = new IntervalSignal();
        // draws from seed 5: 5 (x is 1222621274 then), 7, 6, 7, 3, 4
        part(64);
        due("a note", x.drawn(5, 0, 0), 2);
        due("draw 5 is below 6", x.drawn(5, 1, 0), -1);
        due("one lost", x.drawn(5, 1, 1), 1);
        due("answer stays", x.drawn(5, 1, 2), 0);
        due("the note behind", x.drawn(5, 2, 0), 3);
        due("draw 7", x.drawn(5, 3, 0), 4);
        due("draw 7", x.drawn(5, 3, 1), 1);
        due("draw 7", x.drawn(5, 3, 2), 4);
        due("draw 6 is not below 6", x.drawn(5, 5, 1), 1);
        due("draw 3", x.drawn(5, 9, 1), 2);
        due("draw 4", x.drawn(5, 11, 1), 3);
        IntervalSignal five = Check.of("station tones 5 a 1 b 2 c 1 d 1 odds 5;note 2;gap;note 3;gap;");
        due("draw 5 is not below 5", five.drawn(5, 1, 0), 3);
        due("none lost", five.drawn(5, 1, 1), 0);
        due("answer", five.drawn(5, 1, 2), 3);
        due("the note behind", five.drawn(5, 2, 0), 1);
        due("answer", five.drawn(5, 5, 2), 2);
        due("answer behind a note", five.drawn(5, 6, 2), 2);
        due("none lost", five.drawn(5, 8, 1), 0);
        due("draw 3 is below 5", five.drawn(5, 9, 0), -1);
        due("one lost", five.drawn(5, 9, 1), 1);
        due("answer stays", five.drawn(5, 9, 2), 0);
        five.speak(1, 4);
        due("a word takes no draw", five.drawn(5, 1, 0), 4);
        due("draw 5 comes later", five.drawn(5, 3, 1), 0);
        due("answer behind", five.drawn(5, 3, 2), 1);
        due("draw 7 comes later", five.drawn(5, 9, 1), 0);
        due("draw 3 comes later", five.drawn(5, 11, 1), 1);
        b.speak(3, 2);
        due("a word is never lost", b.drawn(5, 3, 0), 2);
        due("all others are", b.drawn(5, 60, 1), 29);
        due("the word is answer", b.drawn(5, 60, 2), 2);
        b.anew();
        due("all lost", b.drawn(5, 60, 1), 30);
        // draws from seed 0: 0 (x is 12345 then), 8
        due("draw 0 is below 6", x.drawn(0, 1, 0), -1);
        due("draw 8", x.drawn(0, 3, 1), 1);
        due("all lost", b.drawn(2000000000, 59, 0), -1);
        due("no signs", n.drawn(5, 60, 0), -1);
        due("no signs", n.drawn(5, 60, 1), 0);
        due("no signs", n.drawn(5, 60, 2), 0);
        due("drawn(-1, 0, 0)", x.drawn(-1, 0, 0), -2);
        due("drawn(2000000001, 0, 0)", x.drawn(2000000001, 0, 0), -2);
        due("drawn(5, 61, 0)", x.drawn(5, 61, 0), -2);
        due("drawn(5, -1, 0)", x.drawn(5, -1, 0), -2);
        due("drawn(5, 0, 3)", x.drawn(5, 0, 3), -2);
        due("drawn(5, 0, -1)", x.drawn(5, 0, -1), -2);
        due("no station", none.drawn(5, 0, 0), -2);
        part(65);
        due("notes at step 0", x.luck(5, 20, 0, 2), 20);
        due("notes at step 0", x.luck(5, 20, 0, 3), 0);
        due("one night", x.luck(5, 1, 2, 3), 1);
        due("one night", x.luck(0, 1, 2, 3), 1);
        due("all lost", b.luck(5, 20, 1, 1), 0);
        int heardThen = 0;
        for (int seed = 7; seed < 24; seed++) {
            heardThen += x.drawn(seed, 3, 0) == 3 ? 1 : 0;
        }
        due("as drawn", x.luck(7, 17, 3, 3), heardThen);
        due("the largest seed", x.luck(2000000000, 20, 0, 2), 20);
        due("no signs", n.luck(5, 20, 0, 0), 0);
        due("luck(-1, ..)", x.luck(-1, 1, 0, 0), -2);
        due("luck(2000000001, ..)", x.luck(2000000001, 1, 0, 0), -2);
        due("luck(5, 0, ..)", x.luck(5, 0, 0, 0), -2);
        due("luck(5, 21, ..)", x.luck(5, 21, 0, 0), -2);
        due("luck(5, 1, 61, 0)", x.luck(5, 1, 61, 0), -2);
        due("luck(5, 1, -1, 0)", x.luck(5, 1, -1, 0), -2);
        due("luck(5, 1, 0, 5)", x.luck(5, 1, 0, 5), -2);
        due("luck(5, 1, 0, -1)", x.luck(5, 1, 0, -1), -2);
        due("no station", none.luck(5, 1, 0, 0), -2);
    }

    private static void tunes() {
        part(66);
        IntervalSignal x = Check.of(A);
        due("tune(0)", x.tune(0), 1);
        due("tune(4)", x.tune(4), 0);
        due("c", x.count(3), 4);
        due("heard(1)", x.heard(1), 1);
        due("tune(5)", x.tune(5), -2);
        due("tune(-1)", x.tune(-1), -2);
        x.speak(0, -1);
        due("acts", x.tune(1), -5);
        due("first what there is not", x.tune(5), -2);
        due("c stays", x.count(3), 4);
        x.undo();
        due("taken back", x.tune(1), 4);
        due("no station", new IntervalSignal().tune(0), -2);
    }

    private static void counts() {
        part(67);
        IntervalSignal x = Check.of("station tones 9 a 1 b 2 c 3 d 4 odds 5;gap;note 2;gap;post at 10;post at 20;");
        x.row(0, 0, 0);
        x.row(3, 1, 60);
        x.speak(0, 0);
        Check.tell(x, "abc");
        int[] due = {9, 1, 2, 3, 4, 5, 3, 2, 1, 6, 3, 2};
        for (int what = 0; what < due.length; what++) {
            due("count(" + what + ")", x.count(what), due[what]);
            due("count of nothing", new IntervalSignal().count(what), 0);
        }
        due("count(12)", x.count(12), -1);
        due("count(-1)", x.count(-1), -1);
    }

    private static void images() {
        IntervalSignal x = Check.of(A);
        x.speak(1, 4);
        part(68);
        due("image(0)", x.image(0), 0);
        due("image(2)", x.image(2), 0);
        due("image(3)", x.image(3), -2);
        due("image(-1)", x.image(-1), -2);
        part(69);
        due("has nothing", x.back(1), -6);
        due("back(3)", x.back(3), -2);
        due("back(-1)", x.back(-1), -2);
        x.speak(1, 0);
        x.row(0, 2, 2);
        Check.tell(x, B);
        x.station();
        x.tune(2);
        x.image(2);
        Check.tell(x, "gap");
        due("back(0)", x.back(0), 0);
        due("tape stays", x.count(10), 3);
        due("rows stay", x.count(11), 1);
        due("tones", x.count(0), 5);
        due("signs", x.sign(2), 3);
        due("posts", x.post(1), 20);
        due("lines", x.count(9), 7);
        due("spoken", x.spoken(1), 4);
        due("acts", x.count(8), 1);
        due("undo", x.undo(), 0);
        due("spoken", x.spoken(1), -1);
        due("heard", x.heard(1), 3);
        due("back(0) again", x.back(0), 0);
        due("the image stays", x.spoken(1), 4);
        part(68);
        due("back(2)", x.back(2), 0);
        due("tuned it is", x.count(3), 2);
        due("tones", x.count(0), 3);
        due("nothing spoken", x.spoken(1), -1);
        x = new IntervalSignal();
        due("image of none", x.image(1), 0);
        Check.tell(x, A);
        x.station();
        part(69);
        due("back to none", x.back(1), 0);
        due("no station", x.wed(), -2);
        due("no tones", x.count(0), 0);
    }

    private static void rows() {
        IntervalSignal x = new IntervalSignal();
        part(70);
        due("row(0, 0, 60)", x.row(0, 0, 60), 0);
        due("row(0, 0, 61)", x.row(0, 0, 61), -2);
        due("row(0, 4, 1)", x.row(0, 4, 1), -2);
        due("row(0, -1, 1)", x.row(0, -1, 1), -2);
        due("row(4, 0, 1)", x.row(4, 0, 1), -2);
        due("row(-1, 0, 1)", x.row(-1, 0, 1), -2);
        due("row(0, 0, -1)", x.row(0, 0, -1), -3);
        due("row(1, 3, -1)", x.row(1, 3, -1), -3);
        due("row(4, 0, -1)", x.row(4, 0, -1), -2);
        due("row(0, 4, -1)", x.row(0, 4, -1), -2);
        due("the slot stays", x.write(0, 59, 1), 0);
        due("the slot stays", x.write(1, 0, 1), -6);
        due("no numbers", x.row(0, 2, 0), 0);
        due("slots", x.count(11), 1);
        part(71);
        due("no such number", x.write(0, 0, 1), -7);
        x.row(0, 2, 2);
        due("write(0, 1)", x.write(0, 1, 5), 0);
        due("write(0, 2)", x.write(0, 2, 5), -7);
        due("write(0, -1)", x.write(0, -1, 5), -7);
        due("write(1, 0)", x.write(1, 0, 5), -6);
        due("write(4, 0)", x.write(4, 0, 5), -2);
        due("write(-1, 0)", x.write(-1, 0, 5), -2);
        Check.tell(x, "station tones 9 a 0 b 0 c 0 d 0 odds 0;note 8;post at 0;");
        x.station();
        long[] v = {256 + 100, 65536 + 100, 4294967296L + 100, 100};
        int[][] due = {{100, 100, 100, 100}, {100, 100, 100, 100}, {100, -2, 100, 100}, {100, -2, -2, 100}};
        for (int width = 0; width <= 3; width++) {
            x.row(0, width, 2);
            for (int k = 0; k <= 3; k++) {
                x.write(0, 1, v[k]);
                due("width " + width + ", " + v[k], x.places(0), due[width][k]);
            }
            x.write(0, 1, -1);
            due("below 0", x.places(0), -2);
        }
        x.row(0, 0, 2);
        x.write(0, 1, 127);
        due("127 in a byte", x.farther(0), 99);
        x.write(0, 1, 200);
        due("200 is below 0 in a byte", x.places(0), -2);
        part(70);
        x.row(0, 1, 2);
        due("all 0 anew", x.places(0), 1);
    }

    private static void pastes() {
        part(72);
        IntervalSignal x = new IntervalSignal();
        x.row(0, 2, 4);
        x.row(1, 2, 6);
        x.row(2, 1, 6);
        due("no such slot", x.paste(4, 0, 0, 0, 0), -2);
        due("no such slot", x.paste(0, 0, 4, 0, 0), -2);
        due("no such slot", x.paste(-1, 0, 0, 0, 0), -2);
        due("no such slot", x.paste(0, 0, -1, 0, 0), -2);
        due("no such slot", x.paste(3, 0, 4, 0, 0), -2);
        due("has nothing", x.paste(3, 0, 0, 0, 0), -6);
        due("has nothing", x.paste(0, 0, 3, 0, 0), -6);
        due("has nothing", x.paste(3, -1, 3, 0, 0), -6);
        due("another width", x.paste(0, 0, 2, 0, 0), -8);
        due("another width", x.paste(0, -1, 2, 0, 1), -8);
        due("beyond", x.paste(0, 0, 1, 0, 5), -7);
        due("beyond", x.paste(0, 1, 1, 0, 4), -7);
        due("beyond", x.paste(0, 0, 1, 3, 4), -7);
        due("beyond", x.paste(0, 5, 1, 0, 0), -7);
        due("beyond", x.paste(0, 0, 1, 7, 0), -7);
        due("beyond", x.paste(0, 2147483647, 1, 0, 2147483647), -7);
        due("beyond", x.paste(0, 1, 1, 0, 2147483647), -7);
        due("below 0", x.paste(0, -1, 1, 0, 1), -7);
        due("below 0", x.paste(0, 0, 1, -1, 1), -7);
        due("below 0", x.paste(0, 0, 1, 0, -1), -7);
        due("none", x.paste(0, 4, 1, 6, 0), 0);
        due("all", x.paste(0, 0, 1, 2, 4), 0);
        Check.tell(x, "station tones 9 a 0 b 0 c 0 d 0 odds 0;note 8;post at 10;post at 40;");
        x.station();
        Check.fill(x, 0, 0, 100, 1, 110);
        Check.fill(x, 1, 0, 0, 0, 0);
        x.paste(0, 0, 1, 0, 4);
        due("as pasted", x.place(1), 20);
        due("the source stays", x.place(0), 20);
        Check.fill(x, 1, 0, 0, 0, 100, 1, 110);
        x.paste(1, 2, 1, 0, 4);
        // 0 100 1 110 1 110
        due("down over itself", x.place(1), 20);
        Check.fill(x, 1, 0, 100, 1, 110, 0, 0);
        x.paste(1, 0, 1, 2, 4);
        // 0 100 0 100 1 110
        due("up over itself", x.place(1), 20);
        Check.fill(x, 1, 0, 100, 1, 110);
        x.paste(1, 0, 0, 0, 9);
        due("nothing happens", x.place(0), 20);
    }
}
