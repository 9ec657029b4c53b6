/** Boundary cases of promises 1 to 7, and of term I: the tape, the station told on it, its faults. */
final class TapeBounds {
    private static final String HEAD = "station tones 5 a 1 b 1 c 1 d 1 odds 0;";
    private static final int[] TOKENS = {0, 8, 14, 16, 18, 20, 22, 24, 26, 28, 30, 32, 37, 38};
    private static final String SEVEN = "gap;note 1;gap;note 1;gap;note 1;gap;";
    private static final String FOUR_POSTS = "post at 1;post at 1;post at 1;post at 1;";
    private static final int[] FAR_OUT = {Integer.MIN_VALUE, -257, -256, -1, 256, 65536, Integer.MAX_VALUE};

    private final Check check;

    private TapeBounds(Check check) {
        this.check = check;
    }

    static void run(Check check) {
        TapeBounds bounds = new TapeBounds(check);
        bounds.newObject();
        bounds.feedToTheBrim();
        bounds.bytesFed();
        bounds.endOfTape();
        bounds.stationTold();
        bounds.stationRefused();
        bounds.faultAsked();
        bounds.headCutShort();
        bounds.tokensMisplaced();
        bounds.signsThatAreNoTokens();
        bounds.numbersOfHead();
        bounds.numbersOfLines();
        bounds.numbersOfManyDigits();
        bounds.tooMany();
        bounds.whichFaultFirst();
        bounds.signsAndPosts();
    }

    private void due(String call, long got, long want) {
        check.due(call, got, want);
    }

    private static String blanks(int n) {
        return " ".repeat(n);
    }

    private void newObject() {
        IntervalSignal x = new IntervalSignal();
        check.about(1, "nothing is there");
        for (int what = 0; what <= 11; what++) {
            due("count(" + what + ")", x.count(what), 0);
        }
        due("sign(0)", x.sign(0), -2);
        due("post(0)", x.post(0), -2);
        due("heard(0)", x.heard(0), -2);
        due("wed", x.wed(), -2);
        due("undo", x.undo(), -2);
        for (int k = 0; k < 3; k++) {
            due("back(" + k + ")", x.back(k), -6);
        }
        for (int slot = 0; slot < 4; slot++) {
            due("write(" + slot + ")", x.write(slot, 0, 0), -6);
        }
    }

    private void feedToTheBrim() {
        IntervalSignal x = new IntervalSignal();
        check.about(2, "25 feeds are 500 bytes");
        for (int k = 1; k <= 25; k++) {
            due("feed " + k, x.feed(0x20202020, 0x20202020, 0x20202020, 0x20202020, 0x20202020), 20 * k);
        }
        check.about(2, "a 26th would be more than 500");
        due("feed", x.feed(-1, -1, -1, -1, -1), -1);
        due("bytes", x.count(10), 500);
        due("none came", x.station(), 0);
        check.about(2, "behind a station the tape is empty");
        due("feed", x.feed(0, 0, 0, 0, 0), 20);
        check.about(2, "480 bytes and 20 are 500");
        IntervalSignal y = new IntervalSignal();
        Check.tell(y, HEAD + blanks(480 - HEAD.length()));
        due("feed", y.feed(0x6761703b, 0x20202020, 0x20202020, 0x20202020, 0x2020203b), 500);
        due("the last byte stands there", y.station(), -4);
        due("place", y.fault(1), 499);
        check.about(2, "481 bytes and 20 are 501");
        y = new IntervalSignal();
        Check.tell(y, HEAD + blanks(481 - HEAD.length()));
        due("feed", y.feed(-1, -1, -1, -1, -1), -1);
        due("bytes", y.count(10), 481);
        due("none came", y.station(), 1);
        check.about(2, "500 bytes are read to the last");
        y = new IntervalSignal();
        Check.tell(y, HEAD + blanks(496 - HEAD.length()) + "gap;");
        due("bytes", y.count(10), 500);
        due("station", y.station(), 2);
        y = new IntervalSignal();
        Check.tell(y, HEAD + blanks(497 - HEAD.length()) + "gap");
        due("no sign behind the last word", y.station(), -4);
        due("the end's place", y.fault(1), 500);
    }

    /** A sign that is none stands at byte k alone: its place tells where it came. */
    private void bytesFed() {
        check.about(2, "four bytes of each number, the highest first");
        for (int k = 0; k < 20; k++) {
            int[] v = {0x20202020, 0x20202020, 0x20202020, 0x20202020, 0x20202020};
            v[k / 4] ^= 0x01 << 8 * (3 - k % 4);
            IntervalSignal x = new IntervalSignal();
            due("feed", x.feed(v[0], v[1], v[2], v[3], v[4]), 20);
            due("station", x.station(), -4);
            due("byte " + k, x.fault(1), k);
        }
        check.about(2, "bytes above 127 are bytes");
        for (int sign : new int[] {128, 128 + 10, 128 + 32, 128 + ';', 255}) {
            IntervalSignal x = new IntervalSignal();
            due("feed", x.feed(0x20202020, 0x20202000 | sign, -1, -1, -1), 20);
            due("station", x.station(), -4);
            due("sign " + sign, x.fault(1), 7);
        }
    }

    private void endOfTape() {
        IntervalSignal x = new IntervalSignal();
        check.about(3, "an empty tape");
        due("end(0)", x.end(0), 0);
        due("end(1)", x.end(1), -1);
        due("end(-1)", x.end(-1), -1);
        check.about(3, "as many as it has");
        Check.tell(x, HEAD + "xyz");
        due("end(42)", x.end(42), 42);
        check.about(3, "one more than it has");
        due("end(43)", x.end(43), -1);
        due("nothing happens", x.count(10), 42);
        check.about(3, "below 0, and far out");
        for (int n : new int[] {Integer.MIN_VALUE, -43, -42, -1, 500, 501, 42 + 256, 42 + 65536, Integer.MAX_VALUE}) {
            due("end(" + n + ")", x.end(n), -1);
        }
        due("nothing happens", x.count(10), 42);
        check.about(3, "the first n alone");
        due("end(39)", x.end(39), 39);
        due("the others are gone", x.end(40), -1);
        due("feed comes behind them", x.feed(0x6761703b, 0x6761703b, 0x20202020, 0x20202020, 0x20202020), 59);
        due("station", x.station(), 3);
        check.about(3, "none is left");
        Check.tell(x, "xyz");
        due("end(0)", x.end(0), 0);
        due("end(1)", x.end(1), -1);
        due("bytes", x.count(10), 0);
        due("station", x.station(), 0);
        check.about(3, "a full tape");
        for (int k = 0; k < 25; k++) {
            x.feed(0, 0, 0, 0, 0);
        }
        due("end(501)", x.end(501), -1);
        due("end(500)", x.end(500), 500);
        due("end(499)", x.end(499), 499);
        due("feed", x.feed(0, 0, 0, 0, 0), -1);
    }

    private void stationTold() {
        check.about(4, "0 lines: an empty tape");
        IntervalSignal x = Check.of(Stations.A);
        x.speak(0, 1);
        due("station", x.station(), 0);
        due("there is none then", x.heard(0), -2);
        due("there is none then", x.spoken(0), -2);
        for (int what = 0; what <= 9; what++) {
            due("count(" + what + ")", x.count(what), 0);
        }
        due("no sign", x.sign(0), -2);
        due("no post", x.post(0), -2);
        check.about(4, "0 lines: blanks alone");
        x = Check.of(Stations.A);
        Check.tell(x, "\n \n");
        due("station", x.station(), 0);
        due("there is none then", x.heard(0), -2);
        due("tape", x.count(10), 0);
        check.about(4, "one line");
        x = Check.of(HEAD);
        due("lines", x.count(9), 1);
        due("there is one", x.wed(), -1);
        check.about(4, "as many lines as there can be");
        x = new IntervalSignal();
        Check.tell(x, Stations.FULL);
        due("station", x.station(), 14);
        due("lines", x.count(9), 14);
        due("tape is empty", x.count(10), 0);
        check.about(4, "in place of another, nothing spoken");
        for (int k = 0; k < 30; k++) {
            x.speak(k, 8);
        }
        Check.tell(x, Stations.PIPS);
        due("station", x.station(), 2);
        due("signs", x.count(6), 1);
        due("posts", x.count(7), 0);
        due("acts", x.count(8), 0);
        due("spoken(0)", x.spoken(0), -1);
        due("spoken(29)", x.spoken(29), -1);
        due("undo", x.undo(), -5);
        due("tones", x.count(0), 2);
        due("d", x.count(4), 0);
        due("odds", x.count(5), 0);
        check.about(4, "the same tape is not told twice");
        due("station", x.station(), 0);
    }

    private void stationRefused() {
        check.about(4, "a fault: all stays");
        IntervalSignal x = Check.of(Stations.A);
        x.speak(1, 4);
        x.speak(1, 2);
        x.row(2, 1, 5);
        Check.tell(x, Stations.B + "note 3;");
        due("station", x.station(), -4);
        due("tape", x.count(10), 58);
        int[] counts = {5, 1, 2, 1, 1, 2, 4, 2, 2, 7, 58, 1};
        for (int what = 0; what < counts.length; what++) {
            due("count(" + what + ")", x.count(what), counts[what]);
        }
        due("sign(2)", x.sign(2), 3);
        due("post(1)", x.post(1), 20);
        due("spoken(1)", x.spoken(1), 2);
        due("undo", x.undo(), 1);
        due("spoken(1)", x.spoken(1), 4);
        check.about(4, "a fault, mended on the tape that stayed");
        due("again", x.station(), -4);
        x.end(51);
        due("without the last line", x.station(), 3);
        due("tones", x.count(0), 3);
        check.about(4, "a fault without a station");
        x = new IntervalSignal();
        Check.tell(x, HEAD + "gap");
        due("station", x.station(), -4);
        due("none", x.wed(), -2);
        due("lines", x.count(9), 0);
        due("tones", x.count(0), 0);
    }

    private void fault(String text, int kind, int place) {
        IntervalSignal x = new IntervalSignal();
        Check.tell(x, text);
        String shown = text.length() > 90 ? ".. " + text.substring(text.length() - 60) : text;
        int told = x.station();
        due("'" + shown + "' is refused", told == -4 ? 1 : 0, kind == 0 ? 0 : 1);
        due("'" + shown + "' fault(0)", x.fault(0), kind);
        due("'" + shown + "' fault(1)", x.fault(1), place);
        due("'" + shown + "' bytes", x.count(10), kind == 0 ? 0 : text.length());
    }

    private void good(String text) {
        fault(text, 0, -1);
    }

    private void faultAsked() {
        IntervalSignal x = new IntervalSignal();
        check.about(5, "ahead of any station()");
        due("fault(0)", x.fault(0), 0);
        due("fault(1)", x.fault(1), -1);
        Check.tell(x, "  x");
        due("not yet read", x.fault(0), 0);
        check.about(5, "another what");
        x.station();
        for (int what : FAR_OUT) {
            due("fault(" + what + ")", x.fault(what), -1);
        }
        due("fault(2)", x.fault(2), -1);
        check.about(5, "of the latest station()");
        due("fault(0)", x.fault(0), 1);
        due("fault(1)", x.fault(1), 2);
        x.image(0);
        x.back(0);
        x.end(0);
        due("the tape is another one, the fault is not", x.fault(1), 2);
        Check.tell(x, HEAD + "note 5;");
        x.station();
        due("another fault", x.fault(0), 2);
        due("another place", x.fault(1), 44);
        x.end(39);
        x.station();
        check.about(5, "without a fault");
        due("fault(0)", x.fault(0), 0);
        due("fault(1)", x.fault(1), -1);
        due("fault(2)", x.fault(2), -1);
        x.station();
        due("of an empty tape", x.fault(0), 0);
        due("of an empty tape", x.fault(1), -1);
        check.about(5, "place 0 is a place");
        Check.tell(x, ";");
        x.station();
        due("fault(1)", x.fault(1), 0);
    }

    /** The tape ends behind k bytes: a word cut in two is another word, else the end can't stand there. */
    private void headCutShort() {
        check.about(5, "the end's place is how many bytes there are");
        good("");
        for (int k = 1; k < HEAD.length(); k++) {
            int place = k;
            for (String word : new String[] {"station", "tones", "odds"}) {
                int at = HEAD.indexOf(word);
                place = k > at && k < at + word.length() ? at : place;
            }
            fault(HEAD.substring(0, k), 1, place);
        }
        good(HEAD);
        fault(HEAD.substring(0, 38) + " \n ", 1, 41);
        fault(HEAD + "note", 1, 43);
        fault(HEAD + "note ", 1, 44);
        fault(HEAD + "note 1", 1, 45);
        fault(HEAD + "note 1\n", 1, 46);
        fault(HEAD + "gap", 1, 42);
        fault(HEAD + "post", 1, 43);
        fault(HEAD + "post at", 1, 46);
        fault(HEAD + "post at 1", 1, 48);
        check.about(5, "blanks ahead of, between and behind tokens");
        good("\n " + HEAD.replace(" ", " \n ").replace(";", " ; \n") + "\ngap\n;\nnote\n1\n;post\nat\n99\n;\n");
        good(HEAD.replaceAll("([a-z0-9]) ([0-9])", "$1$2").replaceAll("([0-9]) ([a-z])", "$1$2"));
    }

    private void tokensMisplaced() {
        check.about(5, "a token that can't stand there, at every token of the first line");
        for (int k = 0; k < TOKENS.length; k++) {
            int at = TOKENS[k];
            int behind = k + 1 < TOKENS.length ? TOKENS[k + 1] : HEAD.length();
            String ahead = HEAD.substring(0, at);
            boolean number = Character.isDigit(HEAD.charAt(at));
            boolean semicolon = HEAD.charAt(at) == ';';
            fault(ahead + "zz " + HEAD.substring(behind), 1, at);
            fault(ahead + "? " + HEAD.substring(behind), 1, at);
            if (!number && !semicolon) {
                fault(ahead + "1 " + HEAD.substring(behind), 1, at);
            }
            if (!semicolon) {
                fault(ahead + "; " + HEAD.substring(behind), 1, at);
            }
        }
        fault(HEAD.replace(";", " 1;"), 1, 39);
        check.about(5, "station behind the first line");
        fault(HEAD + HEAD, 1, 39);
        fault(HEAD + "gap;station", 1, 43);
        fault(HEAD + SEVEN + "gap;" + HEAD, 1, 39 + 41);
        check.about(5, "another word ahead of station");
        fault("gap;" + HEAD, 1, 0);
        fault(" note 1;", 1, 1);
        fault("post at 1;", 1, 0);
        fault("tones 5", 1, 0);
        fault("stationtones 5", 1, 0);
        fault("statio", 1, 0);
        fault("stations", 1, 0);
        check.about(5, "tokens of other lines");
        fault(HEAD + ";", 1, 39);
        fault(HEAD + "1;", 1, 39);
        fault(HEAD + "at 1;", 1, 39);
        fault(HEAD + "gap 1;", 1, 43);
        fault(HEAD + "gap gap;", 1, 43);
        fault(HEAD + "note;", 1, 43);
        fault(HEAD + "note gap;", 1, 44);
        fault(HEAD + "note 1 1;", 1, 46);
        fault(HEAD + "post 1;", 1, 44);
        fault(HEAD + "post at;", 1, 46);
        fault(HEAD + "post at 1 1;", 1, 49);
        fault(HEAD + "ga p;", 1, 39);
        fault(HEAD + "gapnote 1;", 1, 39);
    }

    private void signsThatAreNoTokens() {
        check.about(5, "signs beside the blanks, letters, digits and ;");
        for (int sign = 0; sign < 256; sign++) {
            boolean blank = sign == 32 || sign == 10;
            boolean letter = sign >= 'a' && sign <= 'z';
            boolean digit = sign >= '0' && sign <= '9';
            if (blank) {
                good(HEAD + (char) sign + "gap" + (char) sign + ";" + (char) sign);
            } else if (letter || digit || sign == ';') {
                fault(HEAD + (char) sign, 1, 39);
            } else {
                fault(HEAD + "gap;" + (char) sign, 1, 43);
                fault(HEAD + "gap" + (char) sign + ";", 1, 42);
                fault(HEAD + "note 1" + (char) sign + ";", 1, 45);
            }
        }
        check.about(5, "the longest token");
        fault(HEAD + "gapa;", 1, 39);
        fault(HEAD + "gapz;", 1, 39);
        fault(HEAD + "gap0;", 1, 42);
        fault(HEAD + "gap9;", 1, 42);
        fault(HEAD + "note 10;", 2, 44);
        fault(HEAD + "note 19;", 2, 44);
        good(HEAD + "note1;post at1;");
        fault(HEAD + "NOTE 1;", 1, 39);
    }

    private static String head(int tones, String of, int number) {
        String text = "station tones " + tones + " a 0 b 0 c 0 d 0 odds 0;";
        return text.replace(of + " 0", of + " " + number);
    }

    private void numbersOfHead() {
        check.about(5, "tones 2 .. 9");
        for (int tones = 0; tones <= 12; tones++) {
            boolean in = tones >= 2 && tones <= 9;
            fault(head(tones, "a", 0), in ? 0 : 2, in ? -1 : 14);
        }
        String[] names = {"a", "b", "c", "d"};
        for (int k = 0; k < 4; k++) {
            check.about(5, names[k] + " 0 .. tones less 1");
            for (int tones = 2; tones <= 9; tones++) {
                good(head(tones, names[k], 0));
                good(head(tones, names[k], tones - 1));
                fault(head(tones, names[k], tones), 2, 18 + 4 * k);
                fault(head(tones, names[k], 10), 2, 18 + 4 * k);
            }
        }
        check.about(5, "odds 0 .. 10");
        good(head(5, "odds", 0));
        good(head(5, "odds", 10));
        fault(head(5, "odds", 11), 2, 37);
        fault(head(5, "odds", 100), 2, 37);
        check.about(5, "below 0 there is no number");
        fault("station tones 5 a -1", 1, 18);
        fault(HEAD + "post at -1;", 1, 47);
    }

    private void numbersOfLines() {
        check.about(5, "a note's tone 0 .. tones less 1");
        for (int tones = 2; tones <= 9; tones++) {
            String text = head(tones, "a", 0);
            good(text + "note 0;");
            good(text + "note " + (tones - 1) + ";");
            fault(text + "note " + tones + ";", 2, 44);
            fault(text + "gap;note 10;", 2, 48);
        }
        check.about(5, "a post 0 .. 99");
        good(HEAD + "post at 0;post at 99;");
        fault(HEAD + "post at 100;", 2, 47);
        fault(HEAD + "post at 99;post at 999;", 2, 58);
    }

    private void numbersOfManyDigits() {
        String[] large = {"256", "65536", "2147483648", "4294967296", "9223372036854775808", "18446744073709551616",
            "340282366920938463463374607431768211456", "1" + "0".repeat(400)};
        check.about(5, "a number is no less for its many digits");
        for (String number : large) {
            fault(HEAD + "note " + number + ";", 2, 44);
            fault(HEAD + "post at " + number + ";", 2, 47);
            fault("station tones " + number.substring(0, number.length() - 1) + "5 a 0", 2, 14);
        }
        check.about(5, "noughts ahead of it make it no more");
        good(HEAD + "note 00;");
        good(HEAD + "note " + "0".repeat(400) + "4;");
        fault(HEAD + "note " + "0".repeat(400) + "5;", 2, 44);
        good(HEAD + "post at 0000000099;");
        fault(HEAD + "post at 00000000100;", 2, 47);
        good(HEAD.replace("tones 5", "tones 005"));
    }

    private void tooMany() {
        String eight = HEAD + SEVEN + "note 1;";
        check.about(5, "an 8th note or gap is told");
        good(HEAD + SEVEN + "gap;");
        good(eight);
        check.about(5, "a 9th note or gap, at its word");
        fault(eight + "gap;", 3, eight.length());
        fault(eight + "note 1;", 3, eight.length());
        fault(eight + " \nnote 1;", 3, eight.length() + 2);
        fault(eight + "post at 1;gap;", 3, eight.length() + 10);
        fault(eight + "gap", 3, eight.length());
        fault(eight + "note", 3, eight.length());
        fault(HEAD + "gap;".repeat(9), 3, 39 + 32);
        fault(HEAD + "note 4;".repeat(9), 3, 39 + 56);
        String five = HEAD + FOUR_POSTS + "post at 2;";
        check.about(5, "a 5th post is told");
        good(five);
        check.about(5, "a 6th post, at its word");
        fault(five + "post at 2;", 3, five.length());
        fault(five + "post", 3, five.length());
        fault(five + "gap; post at 1;", 3, five.length() + 5);
        check.about(5, "each kind by itself");
        good(five + SEVEN + "gap;");
        good(eight + FOUR_POSTS + "post at 1;");
        fault(five + SEVEN + "gap;gap;", 3, five.length() + 41);
        fault(eight + FOUR_POSTS + "post at 1;post at 1;", 3, eight.length() + 50);
    }

    private void whichFaultFirst() {
        String eight = HEAD + SEVEN + "note 1;";
        String five = HEAD + FOUR_POSTS + "post at 2;";
        check.about(5, "the first by its place");
        fault("station tones 1 x", 2, 14);
        fault("station tones 5 x 9", 1, 16);
        fault("station tones 10 a 10", 2, 14);
        fault(HEAD + "note 5 x", 2, 44);
        fault(HEAD + "note x 5", 1, 44);
        fault(HEAD + "note 5", 2, 44);
        fault(eight + "note 9;", 3, eight.length());
        fault(eight + "note ;", 3, eight.length());
        fault(eight + "gap 9;", 3, eight.length());
        fault(five + "post at 100;", 3, five.length());
        fault(five + "post 1;", 3, five.length());
        fault(HEAD + "post at 100;" + SEVEN + "gap;gap;", 2, 47);
        check.about(5, "of one place the least");
        fault(HEAD + SEVEN + "note 1 gap;", 1, 39 + 37 + 7);
        fault(HEAD + SEVEN + "gap note 1;", 1, 39 + 37 + 4);
        fault(HEAD + FOUR_POSTS + "post at 2 post at 2;", 1, 39 + 40 + 10);
        fault(HEAD + "gap 99;", 1, 43);
        fault("station 99", 1, 8);
        fault("99", 1, 0);
    }

    private void signsAndPosts() {
        IntervalSignal x = Check.of(Stations.FULL);
        int[] signs = {8, -1, 0, 1, 2, 3, 4, -1};
        int[] posts = {99, 0, 50, 99, 0};
        check.about(6, "as many as there can be");
        for (int k = 0; k < 8; k++) {
            due("sign(" + k + ")", x.sign(k), signs[k]);
        }
        check.about(6, "none such");
        due("sign(8)", x.sign(8), -2);
        for (int k : FAR_OUT) {
            due("sign(" + k + ")", x.sign(k), -2);
        }
        check.about(7, "as many as there can be");
        for (int k = 0; k < 5; k++) {
            due("post(" + k + ")", x.post(k), posts[k]);
        }
        check.about(7, "none such");
        due("post(5)", x.post(5), -2);
        for (int k : FAR_OUT) {
            due("post(" + k + ")", x.post(k), -2);
        }
        Check.tell(x, HEAD + "gap;post at 7;");
        x.station();
        check.about(6, "none of the one ahead of it are left");
        due("sign(0)", x.sign(0), -1);
        due("sign(1)", x.sign(1), -2);
        due("sign(7)", x.sign(7), -2);
        check.about(7, "none of the one ahead of it are left");
        due("post(0)", x.post(0), 7);
        due("post(1)", x.post(1), -2);
        due("post(4)", x.post(4), -2);
        check.about(6, "no signs");
        due("sign(0)", Check.of(Stations.N).sign(0), -2);
        check.about(7, "no posts");
        due("post(0)", Check.of(Stations.B).post(0), -2);
        check.about(6, "no station");
        due("sign(0)", new IntervalSignal().sign(0), -2);
        check.about(7, "no station");
        due("post(0)", new IntervalSignal().post(0), -2);
    }
}
