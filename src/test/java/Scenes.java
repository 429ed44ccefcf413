/** The conditions in which bounds are tried: see Calls for how a scene is told. */
final class Scenes {
    static final String FLAGS = "f0 5;f1 6;f2 4;f3 3;f4 4;f5 9;f0 7;";
    static final String TEXT = "y5;" + FLAGS + "w0;w0,1;w1,2;w2;w3,4,5;w5;h1 1;h4 0;h5 2;h0 0;h6 6;";

    /** A new object. */
    static final String NEW = "";
    /** A CORD without anything on it. */
    static final String BARE = "tell y4;";
    /** One of each. */
    static final String ONE = "tell y4;f2 4;w2;h0 0;";
    /** All seven flags as they are at first, all words and hooks. */
    static final String SEVEN = "tell " + TEXT;
    /** Some flags off, some wet, all faded; something of all that is kept. */
    static final String WORKED = SEVEN + " | seed 1234 | turn 5 | keep 0 | year 3 | eat 2 | rain true | eat 6 | sew 2 0"
        + " | cut 2 | wind 7 | old 0 0 true | old 1 5 false | write 0 3 | write 6 -1 | write 1 0 | type y3;f0";
    /** As much of everything as there may be, the 240 letters of a text too. */
    static final String BRIMFUL = SEVEN + " | seed 2147483647 | rain true | keep 0 | turn 7 | keep 1 | year 20 | 9 x turn 7 | eat 3"
        + " | 6 x old 0 3 true | 10 x write 0 0 | 10 x write 6 -1 | 240 x feed 32";
    /** A CORD that was told, and then none. */
    static final String GONE = WORKED + " | cord | cord";
    /** YEARS 9000. */
    static final String LATE = "tell y9;f0 1; | 450 x year 20";
    /** YEARS above 9000. */
    static final String TOO_LATE = LATE + " | year 1";

    static final String[] ALL = {NEW, BARE, ONE, SEVEN, WORKED, BRIMFUL, GONE, TOO_LATE};
    static final String[] WITH_CORD = {BARE, ONE, SEVEN, WORKED, BRIMFUL};
    static final String[] WITHOUT_CORD = {NEW, GONE};
}
