/** Stations that several tests tell, with what is heard of them if nothing is spoken. */
final class Stations {
    /** HEARD 2 3 1 3 0 2 0 0, and round from STEP 0 on in 8 STEPS, with a PIP at 7, 15 .. 55. */
    static final String A = "station tones 5 a 1 b 2 c 1 d 1 odds 2;note 2;gap;note 3;gap;post at 10;post at 20;";

    /** HEARD 1 1 1 1 .., a PIP at every odd STEP, and every answer is lost. */
    static final String B = "station tones 3 a 1 b 0 c 0 d 0 odds 10;note 1;gap;";

    /** No SIGNS, and one POST. */
    static final String N = "station tones 4 a 1 b 0 c 0 d 0 odds 5;post at 10;";

    /** HEARD 0 0 0 .., a PIP at every STEP; a word is forgotten at the next one. */
    static final String PIPS = "station tones 2 a 0 b 0 c 0 d 0 odds 0;gap;";

    /** HEARD 0 0 0 .., a PIP at every STEP; a word is said again by each answer behind it. */
    static final String SAYS_AGAIN = "station tones 2 a 0 b 1 c 0 d 0 odds 0;gap;";

    /** HEARD 1 1 2 1 2 1 .. 2, never a PIP: the answer is one above LAST. */
    static final String NEVER = "station tones 3 a 1 b 0 c 1 d 0 odds 0;gap;note 1;";

    /** HEARD 0 8 0 8 .. 0, no gap. */
    static final String NOTES = "station tones 9 a 8 b 8 c 8 d 8 odds 10;note 0;note 8;";

    /** HEARD at STEP n: n and 1, modulo 9; as 8 gaps go round with it, it goes round in 72 STEPS. */
    static final String LONG_ROUND = "station tones 9 a 0 b 1 c 1 d 0 odds 0;gap;gap;gap;gap;gap;gap;gap;gap;";

    /** As many SIGNS, POSTS and LINES as there can be, all numbers as large as they can be. */
    static final String FULL = "station tones 9 a 8 b 8 c 8 d 8 odds 10;"
            + "note 8;gap;note 0;note 1;note 2;note 3;note 4;gap;post at 99;post at 0;post at 50;post at 99;post at 0;";

    /** One POST, at 0, and no SIGNS. */
    static final String POST_AT_0 = "station tones 2 a 0 b 0 c 0 d 0 odds 0;post at 0;";

    private Stations() {
    }

    /** A station of one gap that is lost with these odds. */
    static String lostWith(int odds) {
        return "station tones 2 a 0 b 0 c 0 d 0 odds " + odds + ";gap;";
    }

    static String withPosts(int... places) {
        StringBuilder text = new StringBuilder("station tones 2 a 0 b 0 c 0 d 0 odds 0;");
        for (int place : places) {
            text.append("post at ").append(place).append(';');
        }
        return text.toString();
    }
}
