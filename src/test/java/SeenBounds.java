/** Boundary cases of promises 32, 33 and 43 to 52, and of terms VI and VII: posts, laws and places seen, parents. */
final class SeenBounds {
    private static final int[] NO_SLOTS = {Integer.MIN_VALUE, -1, 4, 256, Integer.MAX_VALUE};

    private final Check check;

    private SeenBounds(Check check) {
        this.check = check;
    }

    static void run(Check check) {
        SeenBounds bounds = new SeenBounds(check);
        bounds.spreads();
        bounds.blindPairs();
        bounds.lawRows();
        bounds.lawsAsked();
        bounds.askedFirst();
        bounds.lawNumbers();
        bounds.lawRowIsFull();
        bounds.lawsWithoutSigns();
        bounds.lawsRefused();
        bounds.placeRows();
        bounds.placeNumbers();
        bounds.placesSet();
        bounds.placeRowIsFull();
        bounds.placesWithoutPosts();
        bounds.placesRefused();
        bounds.numbersCutToTheirWidth();
        bounds.parentPairs();
    }

    private void due(String call, long got, long want) {
        check.due(call, got, want);
    }

    private void spreads() {
        IntervalSignal x = Check.of(Stations.withPosts(0, 99));
        check.about(32, "PLACE 0 and PLACE 99");
        due("spread(0)", x.spread(0), 99);
        due("spread(99)", x.spread(99), 99);
        due("spread(49)", x.spread(49), 1);
        check.about(32, "no PLACE 100 or -1");
        due("spread(100)", x.spread(100), -2);
        due("spread(-1)", x.spread(-1), -2);
        check.about(32, "one POST");
        due("spread(0)", Check.of(Stations.N).spread(0), 0);
        due("spread(10)", Check.of(Stations.N).spread(10), 0);
        check.about(32, "five POSTS, the last counts");
        due("spread(0)", Check.of(Stations.withPosts(10, 10, 10, 10, 30)).spread(0), 20);
        due("spread(20)", Check.of(Stations.withPosts(20, 10, 10, 10, 30)).spread(20), 10);
        check.about(32, "no POSTS");
        IntervalSignal b = Check.of(Stations.B);
        due("spread(0)", b.spread(0), -1);
        due("spread(99)", b.spread(99), -1);
        check.about(32, "no POSTS, and no such PLACE");
        due("spread(100)", b.spread(100), -2);
        due("spread(-1)", b.spread(-1), -2);
        check.about(32, "no STATION");
        due("spread(0)", new IntervalSignal().spread(0), -2);
    }

    private void blindPairs() {
        check.about(33, "without POSTS all");
        due("blind", Check.of(Stations.B).blind(), 4950);
        check.about(33, "one POST tells none apart");
        due("blind", Check.of(Stations.N).blind(), 4950);
        check.about(33, "POSTS at one place tell none apart");
        due("blind", Check.of(Stations.withPosts(7, 7, 7, 7, 7)).blind(), 4950);
        check.about(33, "POSTS at the ends tell all apart");
        due("blind", Check.of(Stations.withPosts(0, 99)).blind(), 0);
        due("blind", Check.of(Stations.withPosts(99, 0)).blind(), 0);
        check.about(33, "one place is told from 99 that are not");
        due("POSTS at 0 and 1", Check.of(Stations.withPosts(0, 1)).blind(), 99 * 98 / 2);
        due("POSTS at 98 and 99", Check.of(Stations.withPosts(98, 99)).blind(), 99 * 98 / 2);
        check.about(33, "the last of five counts");
        due("blind", Check.of(Stations.withPosts(0, 0, 0, 0, 99)).blind(), 0);
        check.about(33, "no STATION");
        due("blind", new IntervalSignal().blind(), -2);
    }

    private void laws(String what, IntervalSignal x, int slot, int laws, int law, int ask, int leaves) {
        check.about(43, what);
        due("laws(" + slot + ")", x.laws(slot), laws);
        check.about(44, what);
        due("law(" + slot + ")", x.law(slot), law);
        check.about(45, what);
        due("ask(" + slot + ")", x.ask(slot), ask);
        check.about(46, what);
        due("leaves(" + slot + ")", x.leaves(slot), leaves);
    }

    private void lawsOf(String what, IntervalSignal x, int slot, int all) {
        laws(what, x, slot, all, all, all, all);
    }

    /** LAST is 0. With c 0 all is 0; with c 1 all is 1 if b is 0, and 1 0 1 0 .. if b is 1; a does nothing. */
    private void lawRows() {
        IntervalSignal x = Check.of(Stations.PIPS);
        x.speak(0, 1);
        x.speak(1, 1);
        Check.fill(x, 0);
        laws("a row with no numbers", x, 0, 8, 0, 0, 4);
        lawsOf("no row", x, 1, -6);
        Check.fill(x, 1, 0, 1);
        laws("one pair", x, 1, 4, 1, 1, 2);
        Check.fill(x, 1, 0, 1, 1, 1);
        laws("those left go alike", x, 1, 2, 1, -1, 2);
        Check.fill(x, 1, 0, 0);
        laws("those left go alike", x, 1, 4, 0, -1, 4);
        Check.fill(x, 1, 0, 0, 0, 1);
        laws("none is left", x, 1, 0, -1, -1, 0);
        Check.fill(x, 1, 0, 0, 0, 0);
        laws("one pair twice", x, 1, 4, 0, -1, 4);
        Check.fill(x, 1, 0, 0, 0);
        lawsOf("not two each", x, 1, -2);
        Check.fill(x, 1, 0);
        lawsOf("not two each", x, 1, -2);
        due("acts stay", x.spoken(1), 1);
    }

    /** HEARD 0 c 0 ..: with two TONES and a note the answer is a LAST, b ANSWER and c. */
    private void lawsAsked() {
        IntervalSignal x = Check.of("station tones 2 a 0 b 0 c 0 d 0 odds 0;note 0;gap;");
        Check.fill(x, 0);
        laws("STEP 0 tells nothing, STEP 1 is the first that does", x, 0, 8, 0, 1, 4);
        x = Check.of(Stations.NOTES);
        Check.fill(x, 0);
        laws("no STEP leaves fewer than now", x, 0, 729, 0, -1, 729);
        Check.fill(x, 0, 60, 0, 59, 8);
        laws("notes alone, as they are", x, 0, 729, 0, -1, 729);
        Check.fill(x, 0, 60, 8);
        laws("notes alone, as they are not", x, 0, 0, -1, -1, 0);
        x = Check.of("station tones 9 a 0 b 0 c 0 d 0 odds 0;gap;");
        Check.fill(x, 0, 0, 8);
        check.about(44, "c is the largest");
        due("law", x.law(0), 8);
        // c is 8: behind STEP 0 ANSWER is 8, and 8 b and 8 modulo 9 is 0 for b 8
        Check.fill(x, 0, 0, 8, 1, 0);
        check.about(44, "b and c are the largest");
        due("law", x.law(0), 88);
        check.about(43, "a is any of nine");
        due("laws", x.laws(0), 9);
        x = Check.of("station tones 9 a 0 b 0 c 0 d 0 odds 0;note 1;gap;note 0;gap;gap;");
        // STEP 1: a and c is 7; STEP 3 and 4 with LAST 0: 7 b and c is 8 b and c, so b is 0 and both are c, 8
        Check.fill(x, 0, 1, 7, 3, 8, 4, 8);
        check.about(44, "a and c are the largest");
        due("law", x.law(0), 808);
        check.about(43, "one alone");
        due("laws", x.laws(0), 1);
        check.about(45, "one alone");
        due("ask", x.ask(0), -1);
        check.about(46, "one alone");
        due("leaves", x.leaves(0), 1);
    }

    private static IntervalSignal withRow(String station, long... numbers) {
        IntervalSignal x = Check.of(station);
        Check.fill(x, 0, numbers);
        return x;
    }

    /** Each on an object of its own, that was asked nothing else. */
    private void askedFirst() {
        check.about(43, "asked first");
        due("laws", withRow(Stations.PIPS, 0, 1).laws(0), 4);
        check.about(44, "asked first");
        due("law", withRow(Stations.PIPS, 0, 1).law(0), 1);
        check.about(45, "asked first");
        due("ask", withRow(Stations.PIPS, 0, 1).ask(0), 1);
        check.about(46, "asked first");
        due("leaves", withRow(Stations.PIPS, 0, 1).leaves(0), 2);
        check.about(47, "asked first");
        due("places", withRow(Stations.POST_AT_0, 0, 7).places(0), 8);
        check.about(48, "asked first");
        due("place", withRow(Stations.withPosts(99), 0, 7).place(0), 92);
        check.about(49, "asked first");
        due("farther", withRow(Stations.POST_AT_0, 0, 7).farther(0), 7);
        check.about(50, "asked first");
        due("set", withRow(Stations.POST_AT_0, 0, 7).set(0), 7);
    }

    private void lawNumbers() {
        IntervalSignal x = Check.of(Stations.PIPS);
        Check.fill(x, 0, 60, 0);
        laws("STEP 60", x, 0, 4, 0, -1, 4);
        Check.fill(x, 0, 60, 1);
        laws("STEP 60", x, 0, 4, 1, 1, 2);
        Check.fill(x, 0, 59, 0);
        laws("STEP 59", x, 0, 6, 0, 0, 4);
        long[][] wrong = {{61, 0}, {-1, 0}, {0, 2}, {0, -1}, {256, 0}, {Integer.MAX_VALUE, 0}, {Integer.MIN_VALUE, 0},
            {0, Integer.MAX_VALUE}, {0, Integer.MIN_VALUE}, {0, 0, 61, 0}, {0, 0, 0, 2}, {0, 1, 0, 0, -1, 0}};
        for (long[] row : wrong) {
            Check.fill(x, 0, row);
            lawsOf("a number is none such: " + java.util.Arrays.toString(row), x, 0, -2);
        }
        IntervalSignal nine = Check.of(Stations.FULL);
        Check.fill(nine, 3, 0, 8);
        check.about(43, "TONE 8 of nine, SLOT 3");
        due("laws", nine.laws(3), 729);
        Check.fill(nine, 3, 0, 9);
        lawsOf("TONE 9 of nine", nine, 3, -2);
    }

    private void lawRowIsFull() {
        IntervalSignal x = Check.of(Stations.PIPS);
        x.row(0, 0, 60);
        for (int k = 0; k < 30; k++) {
            x.write(0, 2 * k, 31 + k);
        }
        laws("60 numbers", x, 0, 4, 0, -1, 4);
        x.write(0, 59, 1);
        laws("number 59 counts", x, 0, 0, -1, -1, 0);
        x.write(0, 59, 2);
        lawsOf("number 59 is none such", x, 0, -2);
        x.write(0, 59, 0);
        x.write(0, 58, 61);
        lawsOf("number 58 is none such", x, 0, -2);
        x.row(0, 0, 59);
        lawsOf("59 numbers", x, 0, -2);
    }

    private void lawsWithoutSigns() {
        IntervalSignal n = Check.of(Stations.N);
        Check.fill(n, 0);
        laws("no SIGNS, no numbers", n, 0, 64, 0, -1, 64);
        Check.fill(n, 0, 0, 0);
        laws("no SIGNS: no TONE was HEARD by any law", n, 0, 0, -1, -1, 0);
        n.speak(0, 0);
        laws("no SIGNS, though spoken", n, 0, 0, -1, -1, 0);
        Check.fill(n, 0, 60, 3);
        laws("no SIGNS", n, 0, 0, -1, -1, 0);
        Check.fill(n, 0, 61, 3);
        lawsOf("no SIGNS, no such STEP", n, 0, -2);
        Check.fill(n, 0, 60, 4);
        lawsOf("no SIGNS, no such TONE", n, 0, -2);
        lawsOf("no SIGNS, no row", n, 1, -6);
    }

    private void lawsRefused() {
        IntervalSignal x = Check.of(Stations.PIPS);
        IntervalSignal none = new IntervalSignal();
        Check.fill(none, 3, 0, 0);
        for (int slot : NO_SLOTS) {
            lawsOf("no such SLOT", x, slot, -2);
            lawsOf("no such SLOT, no STATION", none, slot, -2);
        }
        lawsOf("SLOT 0 has nothing", x, 0, -6);
        lawsOf("SLOT 3 has nothing", x, 3, -6);
        lawsOf("no STATION", none, 3, -2);
        lawsOf("no STATION ahead of nothing", none, 0, -2);
        Check.fill(x, 3, 0, 0);
        x.row(3, 2, -1);
        laws("a refused row stays as it was", x, 3, 4, 0, -1, 4);
    }

    private void places(String what, IntervalSignal x, int slot, int places, int place, int farther, int set) {
        check.about(47, what);
        due("places(" + slot + ")", x.places(slot), places);
        check.about(48, what);
        due("place(" + slot + ")", x.place(slot), place);
        check.about(49, what);
        due("farther(" + slot + ")", x.farther(slot), farther);
        check.about(50, what);
        due("set(" + slot + ")", x.set(slot), set);
    }

    private void placesOf(String what, IntervalSignal x, int slot, int all) {
        places(what, x, slot, all, all, all, all);
    }

    /** One POST at 0: heard there in minute m it came from a PLACE 0 .. m. */
    private void placeRows() {
        IntervalSignal x = Check.of(Stations.POST_AT_0);
        Check.fill(x, 0);
        places("a row with no numbers", x, 0, 100, 0, 99, -2);
        placesOf("no row", x, 1, -6);
        Check.fill(x, 0, 0, 7, 0);
        placesOf("not two each", x, 0, -2);
        Check.fill(x, 0, 0);
        placesOf("not two each", x, 0, -2);
        Check.fill(x, 0, 0, 7, 0, 8);
        places("none: not sent in one minute", x, 0, 0, -1, -1, -1);
        Check.fill(x, 0, 0, 1, 0, 1);
        places("one pair twice", x, 0, 2, 0, 1, 1);
        IntervalSignal two = Check.of(Stations.withPosts(0, 99));
        Check.fill(two, 0, 0, 99, 1, 0);
        places("PLACE 99, sent in minute 0", two, 0, 1, 99, 99, -1);
        Check.fill(two, 0, 0, 98, 1, 0);
        places("none: POSTS are farther apart", two, 0, 0, -1, -1, -1);
        Check.fill(two, 0, 0, 0, 1, 99);
        places("PLACE 0, sent in minute 0", two, 0, 1, 0, 0, -1);
    }

    private void placeNumbers() {
        IntervalSignal x = Check.of(Stations.POST_AT_0);
        Check.fill(x, 0, 0, 0);
        places("minute 0", x, 0, 1, 0, 0, -1);
        Check.fill(x, 0, 0, 98);
        places("PLACE 99 would be sent ahead of minute 0", x, 0, 99, 0, 98, 98);
        Check.fill(x, 0, 0, 99);
        places("PLACE 99 was sent in minute 0", x, 0, 100, 0, 99, 99);
        Check.fill(x, 0, 0, 999);
        places("minute 999", x, 0, 100, 0, 99, 99);
        long[][] wrong = {{0, 1000}, {0, -1}, {1, 0}, {-1, 0}, {256, 0}, {0, 65536}, {Integer.MAX_VALUE, 0},
            {Integer.MIN_VALUE, 0}, {0, Integer.MAX_VALUE}, {0, Integer.MIN_VALUE}, {0, 0, 0, 1000}, {0, 0, 1, 0}};
        for (long[] row : wrong) {
            Check.fill(x, 0, row);
            placesOf("a number is none such: " + java.util.Arrays.toString(row), x, 0, -2);
        }
        IntervalSignal five = Check.of(Stations.withPosts(10, 20, 30, 40, 50));
        Check.fill(five, 3, 4, 0);
        places("POST 4 of five, SLOT 3", five, 3, 1, 50, 50, -1);
        Check.fill(five, 3, 5, 0);
        placesOf("POST 5 of five", five, 3, -2);
    }

    private void placesSet() {
        IntervalSignal x = Check.of(Stations.POST_AT_0);
        Check.fill(x, 0, 0, 1);
        check.about(50, "one alone is left");
        due("set", x.set(0), 1);
        IntervalSignal end = Check.of(Stations.withPosts(99));
        Check.fill(end, 0, 0, 99);
        check.about(50, "at 0");
        due("set", end.set(0), 0);
        Check.fill(end, 0, 0, 999);
        due("in the last minute", end.set(0), 0);
        check.about(50, "at 99");
        Check.fill(x, 0, 0, 999);
        due("set", x.set(0), 99);
        check.about(50, "one more POST than five");
        IntervalSignal five = Check.of(Stations.withPosts(0, 0, 0, 0, 0));
        Check.fill(five, 0, 4, 1);
        due("set", five.set(0), 1);
        due("no POST is set up by asking", five.count(7), 5);
    }

    private void placeRowIsFull() {
        IntervalSignal x = Check.of(Stations.POST_AT_0);
        x.row(0, 1, 60);
        for (int k = 0; k < 30; k++) {
            x.write(0, 2 * k + 1, 999);
        }
        places("60 numbers", x, 0, 100, 0, 99, 99);
        x.write(0, 59, 998);
        places("number 59 counts", x, 0, 0, -1, -1, -1);
        x.write(0, 59, 1000);
        placesOf("number 59 is none such", x, 0, -2);
        x.write(0, 59, 999);
        x.write(0, 58, 1);
        placesOf("number 58 is none such", x, 0, -2);
        x.row(0, 1, 59);
        placesOf("59 numbers", x, 0, -2);
    }

    private void placesWithoutPosts() {
        IntervalSignal b = Check.of(Stations.B);
        Check.fill(b, 0);
        places("no POSTS, no numbers", b, 0, 100, 0, 99, -2);
        Check.fill(b, 0, 0, 0);
        placesOf("no POSTS: there is no POST 0", b, 0, -2);
        placesOf("no POSTS, no row", b, 1, -6);
    }

    private void placesRefused() {
        IntervalSignal x = Check.of(Stations.POST_AT_0);
        IntervalSignal none = new IntervalSignal();
        Check.fill(none, 3, 0, 0);
        for (int slot : NO_SLOTS) {
            placesOf("no such SLOT", x, slot, -2);
            placesOf("no such SLOT, no STATION", none, slot, -2);
        }
        placesOf("SLOT 0 has nothing", x, 0, -6);
        placesOf("SLOT 3 has nothing", x, 3, -6);
        placesOf("no STATION", none, 3, -2);
        placesOf("no STATION ahead of nothing", none, 0, -2);
    }

    /** In a row of minutes: a minute m at the POST at 0 leaves m as the greatest PLACE, -2 if it is none. */
    private void numbersCutToTheirWidth() {
        IntervalSignal x = Check.of(Stations.POST_AT_0);
        long[][] cut = {
            {0, 127, 99}, {0, 128, -2}, {0, 255, -2}, {0, 256, 0}, {0, 256 + 42, 42}, {0, -1, -2}, {0, -256 + 42, 42},
            {0, -128, -2}, {0, -129, 99}, {0, Long.MAX_VALUE, -2}, {0, Long.MIN_VALUE, 0}, {0, 65536 + 256 + 7, 7},
            {1, 256 + 42, 99}, {1, 999, 99}, {1, 1000, -2}, {1, 32767, -2}, {1, 32768, -2}, {1, 65535, -2}, {1, 65536, 0},
            {1, 65536 + 42, 42}, {1, -65536 + 42, 42}, {1, Long.MAX_VALUE, -2}, {1, Long.MIN_VALUE, 0},
            {2, 65536 + 42, -2}, {2, 2147483647L, -2}, {2, 2147483648L, -2}, {2, 4294967295L, -2}, {2, 4294967296L, 0},
            {2, 4294967296L + 42, 42}, {2, -4294967296L + 42, 42}, {2, Long.MIN_VALUE, 0}, {2, 42, 42},
            {3, 4294967296L + 42, -2}, {3, Long.MAX_VALUE, -2}, {3, Long.MIN_VALUE, -2}, {3, 42, 42}, {3, -1, -2}};
        for (long[] v : cut) {
            check.about(71, "cut to WIDTH " + v[0]);
            x.row(0, (int) v[0], 2);
            due("write " + v[1], x.write(0, 1, v[1]), 0);
            due("of " + v[1] + " is left", x.farther(0), v[2]);
        }
        check.about(71, "a STEP of 8 bytes is not cut to four");
        IntervalSignal pips = Check.of(Stations.PIPS);
        pips.row(0, 3, 2);
        pips.write(0, 0, 4294967296L);
        due("laws", pips.laws(0), -2);
        pips.write(0, 0, 0);
        pips.write(0, 1, 4294967296L);
        due("laws", pips.laws(0), -2);
    }

    private void parentPairs() {
        String head = "station tones 9 a 0 b 0 c 0 d 0 odds 0;";
        IntervalSignal x = Check.of(head + "note 0;".repeat(7) + "note 1;");
        check.about(51, "SIGNS 0 .. 6, each with SIGN 7");
        due("parents(1)", x.parents(1), 7);
        check.about(52, "SIGNS 0 and 7");
        due("parent(1)", x.parent(1), 7);
        check.about(51, "notes alike are none");
        due("parents(0)", x.parents(0), 0);
        check.about(52, "notes alike are none");
        due("parent(0)", x.parent(0), -1);
        x = Check.of(head + "gap;".repeat(6) + "note 3;note 8;");
        check.about(51, "modulo tones");
        due("parents(2)", x.parents(2), 1);
        check.about(52, "SIGNS 6 and 7");
        due("parent(2)", x.parent(2), 67);
        check.about(51, "gaps are none");
        due("parents(7)", x.parents(7), 0);
        due("parents(3)", x.parents(3), 0);
        check.about(51, "all pairs of eight");
        IntervalSignal all = Check.of(head + "note 0;note 1;note 2;note 3;note 4;note 5;note 6;note 7;");
        int pairs = 0;
        for (int tone = 0; tone < 9; tone++) {
            pairs += all.parents(tone);
        }
        due("in all", pairs, 28);
        due("2 and 7, 3 and 6, 4 and 5", all.parents(0), 3);
        due("1 and 7, 2 and 6, 3 and 5", all.parents(8), 3);
        check.about(52, "the first such pair");
        due("parent(0)", all.parent(0), 27);
        due("parent(8)", all.parent(8), 17);
        due("parent(1)", all.parent(1), 1);
        check.about(51, "no TONE 9 or -1");
        due("parents(9)", all.parents(9), -2);
        due("parents(-1)", all.parents(-1), -2);
        check.about(52, "no TONE 9 or -1");
        due("parent(9)", all.parent(9), -2);
        due("parent(-1)", all.parent(-1), -2);
        check.about(51, "one note");
        due("parents(1)", Check.of(Stations.B).parents(1), 0);
        due("parents(2)", Check.of(Stations.B).parents(2), 0);
        check.about(51, "no SIGNS");
        due("parents(0)", Check.of(Stations.N).parents(0), 0);
        due("parents(4)", Check.of(Stations.N).parents(4), -2);
        check.about(52, "no SIGNS");
        due("parent(0)", Check.of(Stations.N).parent(0), -1);
        check.about(51, "no STATION");
        due("parents(0)", new IntervalSignal().parents(0), -2);
        check.about(52, "no STATION");
        due("parent(0)", new IntervalSignal().parent(0), -2);
        check.about(51, "words are no notes told");
        all.speak(0, 8);
        due("parents(0)", all.parents(0), 3);
    }
}
