/** Games that several tests ask for. */
final class Games {
    /** Has 3 states: 0 is MAX's with two choices, 1 is MIN's, 2 the target. */
    static final String SMALL = "a2:0;+a=0?1|2:a=1;-a=1?3:a=0|1:a=2;+a=0?1:a=1;!a=2";
    /** Has 3 states that are found; 0 is MAX's, 2 was not looked at. */
    static final String MIXED_AT_1 = "a5:0;+a=0?1:a=1|1:a=2;+a=1?1:a=3;-a=1?1:a=0;!a=5";
    /** Goes up by one, or back to 0; all of the 8 states that are found were looked at. */
    static final String TOO_MANY = "a9:0;+1=1?2:a=a+1|1:a=0;!a=9";

    private Games() {
    }
}
