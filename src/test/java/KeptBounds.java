/** Boundary cases of promises 67 to 72: counts, images, rows. */
final class KeptBounds {
    private static final int[] FAR_OUT = {Integer.MIN_VALUE, -256, -1, 256, 65536, Integer.MAX_VALUE};

    private final Check check;

    private KeptBounds(Check check) {
        this.check = check;
    }

    static void run(Check check) {
        KeptBounds bounds = new KeptBounds(check);
        bounds.fullCounts();
        bounds.emptyCounts();
        bounds.images();
        bounds.imagesRefused();
        bounds.imageOfNone();
        bounds.imagesKeepActs();
        bounds.whatImagesDoNotKeep();
        bounds.rowLengths();
        bounds.rowsRefused();
        bounds.rowsAnew();
        bounds.writes();
        bounds.pastesRefused();
        bounds.pastesToTheEdge();
        bounds.pastesOverItself();
        bounds.pastesOfEveryWidth();
    }

    private void due(String call, long got, long want) {
        check.due(call, got, want);
    }

    private void fullCounts() {
        IntervalSignal x = Check.of(Stations.FULL);
        for (int k = 0; k < 30; k++) {
            x.speak(k, -1);
        }
        for (int k = 0; k < 25; k++) {
            x.feed(0, 0, 0, 0, 0);
        }
        for (int slot = 0; slot < 4; slot++) {
            x.row(slot, slot, slot == 0 ? 0 : 60);
        }
        check.about(67, "all as large as it can be");
        int[] due = {9, 8, 8, 8, 8, 10, 8, 5, 30, 14, 500, 4};
        for (int what = 0; what < due.length; what++) {
            due("count(" + what + ")", x.count(what), due[what]);
        }
        check.about(67, "others");
        due("count(12)", x.count(12), -1);
        for (int what : FAR_OUT) {
            due("count(" + what + ")", x.count(what), -1);
        }
    }

    private void emptyCounts() {
        IntervalSignal x = new IntervalSignal();
        check.about(67, "nothing is there");
        for (int what = 0; what <= 11; what++) {
            due("count(" + what + ")", x.count(what), 0);
        }
        due("count(12)", x.count(12), -1);
        due("count(-1)", x.count(-1), -1);
        check.about(67, "a SLOT with a row of no numbers has a row");
        x.row(3, 0, 0);
        due("count(11)", x.count(11), 1);
        x.row(3, 1, 0);
        due("made anew it is the same SLOT", x.count(11), 1);
        x.row(0, 0, 61);
        x.row(1, 0, -1);
        due("a refused row is none", x.count(11), 1);
        check.about(67, "refused acts are none");
        Check.tell(x, Stations.A);
        x.station();
        x.speak(0, 5);
        x.speak(61, 0);
        due("count(8)", x.count(8), 0);
    }

    private void images() {
        IntervalSignal x = new IntervalSignal();
        String[] texts = {Stations.A, Stations.B, Stations.FULL};
        int[] tones = {5, 3, 9};
        check.about(68, "IMAGES 0, 1 and 2, each by itself");
        for (int k = 0; k < 3; k++) {
            Check.tell(x, texts[k]);
            x.station();
            due("image(" + k + ")", x.image(k), 0);
        }
        check.about(69, "IMAGES 0, 1 and 2, each by itself");
        for (int k = 0; k < 3; k++) {
            due("back(" + k + ")", x.back(k), 0);
            due("tones of " + k, x.count(0), tones[k]);
        }
        check.about(69, "gone back to again, as it was");
        x.back(0);
        x.tune(4);
        x.speak(3, 3);
        due("back(0)", x.back(0), 0);
        due("c", x.count(3), 1);
        due("acts", x.count(8), 0);
        check.about(68, "in place of another");
        x.tune(4);
        due("image(0)", x.image(0), 0);
        x.tune(2);
        due("back(0)", x.back(0), 0);
        due("c", x.count(3), 4);
        check.about(69, "the other IMAGES stay");
        due("back(1)", x.back(1), 0);
        due("tones", x.count(0), 3);
        check.about(69, "all SIGNS and POSTS of a full one");
        due("back(2)", x.back(2), 0);
        due("signs", x.count(6), 8);
        due("sign(7)", x.sign(7), -1);
        due("sign(6)", x.sign(6), 4);
        due("posts", x.count(7), 5);
        due("post(4)", x.post(4), 0);
        due("post(3)", x.post(3), 99);
        due("d", x.count(4), 8);
        due("odds", x.count(5), 10);
        due("lines", x.count(9), 14);
    }

    private void imagesRefused() {
        IntervalSignal x = Check.of(Stations.A);
        x.speak(0, 1);
        check.about(68, "no such k");
        due("image(3)", x.image(3), -2);
        for (int k : FAR_OUT) {
            due("image(" + k + ")", x.image(k), -2);
        }
        check.about(69, "no such k");
        due("back(3)", x.back(3), -2);
        for (int k : FAR_OUT) {
            due("back(" + k + ")", x.back(k), -2);
        }
        check.about(69, "it has nothing, and all is as it was");
        for (int k = 0; k < 3; k++) {
            due("back(" + k + ")", x.back(k), -6);
        }
        due("spoken(0)", x.spoken(0), 1);
        due("tones", x.count(0), 5);
        x.image(1);
        due("back(0)", x.back(0), -6);
        due("back(2)", x.back(2), -6);
        due("back(1)", x.back(1), 0);
    }

    private void imageOfNone() {
        IntervalSignal x = new IntervalSignal();
        check.about(68, "no STATION is kept, too");
        due("image(2)", x.image(2), 0);
        Check.tell(x, Stations.A);
        x.station();
        x.speak(0, 1);
        check.about(69, "to no STATION");
        due("back(2)", x.back(2), 0);
        due("heard(0)", x.heard(0), -2);
        for (int what = 0; what <= 9; what++) {
            due("count(" + what + ")", x.count(what), 0);
        }
        check.about(69, "to a STATION from none");
        x = Check.of(Stations.A);
        x.image(0);
        x.station();
        due("none", x.wed(), -2);
        due("back(0)", x.back(0), 0);
        due("wed", x.wed(), 7);
    }

    private void imagesKeepActs() {
        IntervalSignal x = Check.of(Stations.A);
        for (int k = 0; k < 30; k++) {
            x.speak(60 - k, k % 5);
        }
        check.about(68, "30 acts are kept");
        x.image(0);
        x.anew();
        due("none", x.count(8), 0);
        check.about(69, "30 acts are there again");
        due("back(0)", x.back(0), 0);
        due("acts", x.count(8), 30);
        due("spoken(60)", x.spoken(60), 0);
        due("spoken(31)", x.spoken(31), 4);
        due("speak", x.speak(0, 0), -5);
        check.about(69, "and are taken back one by one");
        due("undo", x.undo(), 29);
        due("spoken(31)", x.spoken(31), -1);
        due("spoken(32)", x.spoken(32), 3);
        check.about(69, "whatever was spoken in between");
        x.anew();
        for (int k = 0; k < 30; k++) {
            x.speak(k, 1);
        }
        x.back(0);
        due("undo", x.undo(), 29);
        due("spoken(31)", x.spoken(31), -1);
        due("spoken(29)", x.spoken(29), -1);
        check.about(69, "no act is left of what was");
        x = Check.of(Stations.A);
        x.image(0);
        x.speak(1, 1);
        x.back(0);
        due("spoken(1)", x.spoken(1), -1);
        due("undo", x.undo(), -5);
        check.about(69, "what was ahead of an act is kept with it");
        x.speak(1, 1);
        x.speak(1, 2);
        x.image(1);
        x.anew();
        x.speak(1, 4);
        x.speak(1, 3);
        x.back(1);
        due("undo", x.undo(), 1);
        due("spoken(1)", x.spoken(1), 1);
    }

    private void whatImagesDoNotKeep() {
        IntervalSignal x = Check.of(Stations.A);
        x.row(0, 0, 2);
        Check.tell(x, "gap");
        x.station();
        x.image(0);
        x.end(1);
        x.row(1, 0, 2);
        x.end(0);
        Check.tell(x, "      1");
        x.station();
        check.about(69, "the TAPE, rows and the FAULT stay");
        due("back(0)", x.back(0), 0);
        due("bytes", x.count(10), 7);
        due("rows", x.count(11), 2);
        due("fault(1)", x.fault(1), 6);
    }

    private void rowLengths() {
        IntervalSignal x = new IntervalSignal();
        for (int slot = 0; slot <= 3; slot++) {
            for (int width = 0; width <= 3; width++) {
                check.about(70, "60 numbers, SLOT " + slot + ", WIDTH " + width);
                due("row", x.row(slot, width, 60), 0);
                check.about(71, "number 0 and number 59 of 60");
                due("write 0", x.write(slot, 0, 1), 0);
                due("write 59", x.write(slot, 59, 1), 0);
                due("write 60", x.write(slot, 60, 1), -7);
                check.about(70, "one number, SLOT " + slot + ", WIDTH " + width);
                due("row", x.row(slot, width, 1), 0);
                due("write 0", x.write(slot, 0, 1), 0);
                due("write 1", x.write(slot, 1, 1), -7);
                check.about(70, "no number, SLOT " + slot + ", WIDTH " + width);
                due("row", x.row(slot, width, 0), 0);
                due("write 0", x.write(slot, 0, 1), -7);
            }
        }
    }

    private void rowsRefused() {
        IntervalSignal x = Check.of(Stations.POST_AT_0);
        x.row(0, 1, 2);
        x.write(0, 1, 42);
        check.about(70, "above 60");
        for (int n : new int[] {61, 62, 256, 65536, Integer.MAX_VALUE}) {
            due("row(0, 1, " + n + ")", x.row(0, 1, n), -2);
        }
        check.about(70, "below 0, and the SLOT stays");
        for (int n : new int[] {-1, -2, -60, -256, Integer.MIN_VALUE}) {
            due("row(0, 1, " + n + ")", x.row(0, 1, n), -3);
            due("row(0, 0, " + n + ")", x.row(0, 0, n), -3);
            due("row(1, 1, " + n + ")", x.row(1, 1, n), -3);
        }
        due("its numbers", x.farther(0), 42);
        due("how many", x.write(0, 2, 0), -7);
        due("its WIDTH", x.write(0, 1, 256 + 7), 0);
        due("its WIDTH", x.farther(0), 99);
        due("SLOT 1 has nothing", x.write(1, 0, 0), -6);
        check.about(70, "no such SLOT");
        due("row(4, 0, 2)", x.row(4, 0, 2), -2);
        for (int slot : FAR_OUT) {
            due("row(" + slot + ", 0, 2)", x.row(slot, 0, 2), -2);
        }
        check.about(70, "no such WIDTH");
        due("row(0, 4, 2)", x.row(0, 4, 2), -2);
        for (int width : FAR_OUT) {
            due("row(0, " + width + ", 2)", x.row(0, width, 2), -2);
        }
        due("the SLOT stays", x.places(0), 100);
        check.about(70, "-2 ahead of -3");
        due("row(4, 0, -1)", x.row(4, 0, -1), -2);
        due("row(-1, 0, -1)", x.row(-1, 0, -1), -2);
        due("row(0, 4, -1)", x.row(0, 4, -1), -2);
        due("row(0, -1, -1)", x.row(0, -1, -1), -2);
    }

    private void rowsAnew() {
        IntervalSignal x = Check.of(Stations.POST_AT_0);
        x.row(0, 2, 2);
        x.write(0, 1, 42);
        check.about(70, "all 0, in place of another one");
        due("row", x.row(0, 2, 2), 0);
        due("minute 0", x.farther(0), 0);
        x.row(0, 1, 60);
        for (int i = 0; i < 60; i++) {
            x.write(0, i, 42);
        }
        x.row(0, 1, 2);
        x.row(0, 1, 60);
        due("all 60", x.farther(0), 0);
        check.about(70, "another WIDTH");
        x.row(0, 0, 2);
        x.write(0, 1, 256 + 5);
        due("one byte", x.farther(0), 5);
        x.row(0, 1, 2);
        x.write(0, 1, 256 + 5);
        due("two bytes", x.farther(0), 99);
        check.about(70, "the other SLOTS stay");
        x.row(1, 0, 2);
        x.row(3, 0, 2);
        due("SLOT 0", x.farther(0), 99);
        due("SLOT 2 has nothing", x.farther(2), -6);
    }

    private void writes() {
        IntervalSignal x = Check.of(Stations.POST_AT_0);
        x.row(1, 0, 2);
        check.about(71, "no such SLOT");
        due("write(4, 0, 0)", x.write(4, 0, 0), -2);
        for (int slot : FAR_OUT) {
            due("write(" + slot + ", 0, 0)", x.write(slot, 0, 0), -2);
            due("write(" + slot + ", -1, 0)", x.write(slot, -1, 0), -2);
        }
        check.about(71, "it has nothing");
        due("write(0, 0, 0)", x.write(0, 0, 0), -6);
        due("write(3, 0, 0)", x.write(3, 0, 0), -6);
        check.about(71, "it has nothing, and no such number");
        due("write(0, -1, 0)", x.write(0, -1, 0), -6);
        due("write(0, 60, 0)", x.write(0, 60, 0), -6);
        check.about(71, "no such number");
        due("write(1, 2, 9)", x.write(1, 2, 9), -7);
        for (int i : FAR_OUT) {
            due("write(1, " + i + ", 9)", x.write(1, i, 9), -7);
        }
        due("nothing is written", x.farther(1), 0);
        check.about(71, "the last number");
        due("write(1, 1, 9)", x.write(1, 1, 9), 0);
        due("it is written", x.farther(1), 9);
        check.about(71, "number 0");
        due("write(1, 0, 1)", x.write(1, 0, 1), 0);
        due("no POST 1", x.farther(1), -2);
    }

    private static IntervalSignal twoRows() {
        IntervalSignal x = Check.of(Stations.POST_AT_0);
        x.row(0, 1, 4);
        x.write(0, 1, 11);
        x.write(0, 3, 11);
        x.row(1, 1, 2);
        x.write(1, 1, 22);
        x.row(2, 0, 4);
        return x;
    }

    private void pastesRefused() {
        IntervalSignal x = twoRows();
        check.about(72, "no such SLOT");
        due("from 4", x.paste(4, 0, 0, 0, 0), -2);
        due("to 4", x.paste(0, 0, 4, 0, 0), -2);
        for (int slot : FAR_OUT) {
            due("from", x.paste(slot, 0, 0, 0, 0), -2);
            due("to", x.paste(0, 0, slot, 0, 0), -2);
        }
        check.about(72, "one has nothing");
        due("from 3", x.paste(3, 0, 0, 0, 0), -6);
        due("to 3", x.paste(0, 0, 3, 0, 0), -6);
        due("both", x.paste(3, 0, 3, 0, 0), -6);
        check.about(72, "not of one WIDTH");
        due("from", x.paste(2, 0, 0, 0, 1), -8);
        due("to", x.paste(0, 0, 2, 0, 1), -8);
        due("though there are none to put", x.paste(0, 0, 2, 0, 0), -8);
        check.about(72, "-2 ahead of -6 ahead of -8 ahead of -7");
        due("no SLOT, nothing", x.paste(3, 0, 4, 0, 0), -2);
        due("no SLOT, below 0", x.paste(-1, -1, 0, -1, -1), -2);
        due("nothing, below 0", x.paste(3, -1, 0, 0, 0), -6);
        due("nothing, another WIDTH", x.paste(2, 0, 3, 0, 0), -6);
        due("another WIDTH, below 0", x.paste(2, -1, 0, 0, 0), -8);
        due("another WIDTH, beyond", x.paste(0, 9, 2, 9, 9), -8);
        check.about(72, "beyond their rows, and nothing happens");
        due("one more than there are", x.paste(0, 0, 1, 0, 3), -7);
        due("from beyond", x.paste(1, 1, 0, 0, 2), -7);
        due("to beyond", x.paste(1, 0, 0, 3, 2), -7);
        due("from behind the end", x.paste(1, 3, 0, 0, 0), -7);
        due("to behind the end", x.paste(0, 0, 1, 3, 0), -7);
        check.about(72, "beyond, by numbers that wrap around");
        int max = Integer.MAX_VALUE;
        due("i", x.paste(0, max, 1, 0, 1), -7);
        due("k", x.paste(0, 0, 1, max, 1), -7);
        due("n", x.paste(0, 0, 1, 0, max), -7);
        due("i and n", x.paste(0, 1, 1, 0, max), -7);
        due("k and n", x.paste(0, 0, 1, 1, max), -7);
        due("all", x.paste(0, max, 1, max, max), -7);
        check.about(72, "a place or n is below 0, and nothing happens");
        for (int v : new int[] {-1, -2, Integer.MIN_VALUE}) {
            due("i", x.paste(0, v, 1, 0, 1), -7);
            due("k", x.paste(0, 0, 1, v, 1), -7);
            due("n", x.paste(0, 0, 1, 0, v), -7);
            due("i, with none to put", x.paste(0, v, 1, 0, 0), -7);
            due("k, with none to put", x.paste(0, 0, 1, v, 0), -7);
        }
        due("SLOT 0 is as it was", x.farther(0), 11);
        due("SLOT 1 is as it was", x.farther(1), 22);
    }

    private void pastesToTheEdge() {
        IntervalSignal x = twoRows();
        check.about(72, "none, at the end");
        due("paste", x.paste(0, 4, 1, 2, 0), 0);
        due("as it was", x.farther(1), 22);
        check.about(72, "the last to the last");
        due("paste", x.paste(0, 3, 1, 1, 1), 0);
        due("put", x.farther(1), 11);
        due("the source stays", x.farther(0), 11);
        check.about(72, "all of a row");
        x = twoRows();
        due("paste", x.paste(1, 0, 0, 0, 2), 0);
        due("22 and 11", x.places(0), 0);
        due("paste", x.paste(1, 0, 0, 2, 2), 0);
        due("22 and 22", x.farther(0), 22);
        check.about(72, "as they were: later writes are not put");
        x.write(1, 1, 33);
        due("22", x.farther(0), 22);
        check.about(72, "60 numbers");
        x.row(0, 1, 60);
        x.row(1, 1, 60);
        x.write(0, 59, 1);
        due("paste", x.paste(0, 0, 1, 0, 60), 0);
        due("0 and 1", x.places(1), 0);
        due("61", x.paste(0, 0, 1, 0, 61), -7);
        check.about(72, "rows with no numbers");
        x.row(0, 1, 0);
        due("none", x.paste(0, 0, 1, 60, 0), 0);
        due("none to itself", x.paste(0, 0, 0, 0, 0), 0);
        due("one", x.paste(1, 0, 0, 0, 1), -7);
    }

    /** Four minutes at the POST at 0: fewer PLACES are left only if they are alike. */
    private void pastesOverItself() {
        IntervalSignal x = Check.of(Stations.POST_AT_0);
        check.about(72, "to its own, up");
        Check.fill(x, 0, 0, 5, 0, 6, 0, 7);
        due("paste", x.paste(0, 0, 0, 2, 4), 0);
        // 0 5 0 5 0 6
        x.row(1, 2, 2);
        x.paste(0, 2, 1, 0, 2);
        due("the second", x.farther(1), 5);
        x.paste(0, 4, 1, 0, 2);
        due("the third", x.farther(1), 6);
        check.about(72, "to its own, down");
        Check.fill(x, 0, 0, 5, 0, 6, 0, 7);
        due("paste", x.paste(0, 2, 0, 0, 4), 0);
        // 0 6 0 7 0 7
        x.paste(0, 0, 1, 0, 2);
        due("the first", x.farther(1), 6);
        x.paste(0, 2, 1, 0, 2);
        due("the second", x.farther(1), 7);
        check.about(72, "to its own, to where they are");
        due("paste", x.paste(0, 0, 0, 0, 6), 0);
        x.paste(0, 4, 1, 0, 2);
        due("the third", x.farther(1), 7);
    }

    private void pastesOfEveryWidth() {
        for (int width = 0; width <= 3; width++) {
            IntervalSignal x = Check.of(Stations.POST_AT_0);
            check.about(72, "WIDTH " + width);
            x.row(0, width, 2);
            x.row(3, width, 2);
            x.write(0, 1, 42);
            due("paste", x.paste(0, 0, 3, 0, 2), 0);
            due("put", x.farther(3), 42);
            for (int other = 0; other <= 3; other++) {
                x.row(2, other, 2);
                due("to WIDTH " + other, x.paste(0, 0, 2, 0, 2), other == width ? 0 : -8);
                due("from WIDTH " + other, x.paste(2, 0, 3, 0, 0), other == width ? 0 : -8);
            }
        }
        check.about(72, "8 bytes are put whole");
        IntervalSignal x = Check.of(Stations.POST_AT_0);
        x.row(0, 3, 2);
        x.row(1, 3, 2);
        x.write(0, 1, 4294967296L + 42);
        x.paste(0, 0, 1, 0, 2);
        due("no minute", x.farther(1), -2);
    }
}
