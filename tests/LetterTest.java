/** Promises 31 to 37: cross, meets, forged, agree, when, sure, matters. */
public final class LetterTest {
    private static final String LAND = "realm towns 4 hours 20;road 0 to 1 hours 4;road 1 to 2 hours 3;"
        + "rider pace 1 rests 0;rider pace 2 rests 1;";

    public static void main(String[] args) {
        meets();
        crossOnce();
        forged();
        forgedRefusals();
        agree();
        sure();
        widths();
        seenRefusals();
        matters();
        Check.finish();
    }

    private static String order(int rider, String what, int from, int to, int hour) {
        return "order rider " + rider + " on 0 " + what + " from " + from + " to " + to + " at " + hour + ";";
    }

    private static void meets() {
        SlowOrder x = Check.told(LAND + order(0, "says 1", 0, 1, 0) + order(0, "says 2", 1, 0, 3)
            + order(0, "says 3", 1, 0, 4) + order(0, "says 4", 0, 1, 1));
        Check.due("on the road", x.meets(0, 1), 1);
        Check.due("the other way round", x.meets(1, 0), 1);
        Check.due("as he comes the other sets out", x.meets(0, 2), 0);
        Check.due("as he comes the other sets out", x.meets(2, 0), 0);
        Check.due("one way", x.meets(0, 3), 0);
        Check.due("on the road", x.meets(2, 3), 1);
        Check.due("pairs", x.cross(), 3);
        Check.due("one twice", x.meets(1, 1), -2);
        Check.due("no such", x.meets(0, 4), -2);
        Check.due("no such", x.meets(4, 0), -2);
        Check.due("no such", x.meets(0, -1), -2);
        Check.due("no such", x.meets(-1, 0), -2);
        x.sends(1, 19);
        Check.due("pairs", x.cross(), 1);
        x.sends(0, 19);
        Check.due("beyond the last hour, too", x.meets(0, 1), 1);
        Check.due("pairs", x.cross(), 2);
        x = Check.told(LAND);
        Check.due("none", x.cross(), 0);
    }

    private static void crossOnce() {
        // they shuttle past one another more than once
        SlowOrder x = Check.told(LAND + "order rider 0 on 0 says 1 from 0 to 1 at 0 via 1 0;"
            + "order rider 0 on 1 says 1 from 1 to 0 at 1 via 0 1;" + order(1, "says 5", 2, 3, 0));
        Check.due("each pair once", x.cross(), 1);
        Check.due("no way", x.meets(0, 2), 0);
        // waiting for a flood he is not on the road
        x = Check.told(LAND + "flood 0 to 1 from 2 to 6;" + order(0, "says 1", 0, 1, 0) + order(0, "says 2", 1, 0, 2)
            + order(1, "says 3", 0, 1, 3));
        Check.due("waits till he is by", x.meets(0, 1), 0);
        Check.due("sets out at once with him", x.meets(1, 2), 1);
    }

    private static void forged() {
        SlowOrder x = Check.told(LAND + "order rider 1 on 0 says 1 from 0 to 2 at 1 via 2 1;" + order(0, "says 1", 0, 3, 0)
            + order(0, "says 1", 0, 2, 14));
        // 0 comes to 1 at 9, to 2 at 16, to 1 at 23; 2 comes to 1 at 18, to 2 at 21
        Check.row(x, 0, 0, 0, 0, 1, 0, 1, 9, 0, 2, 16, 2, 1, 18);
        Check.due("all so", x.forged(0), 0);
        Check.row(x, 0, 0, 0, 1, 23, 0, 2, 17, 0, 3, 9, 1, 0, 0, 2, 2, 21, 0, 0, 1);
        Check.due("later, unlike, nowhere, without a way, beyond", x.forged(0), 5);
        Check.row(x, 1, 3, 0, 1, 9L + (1L << 32), 0, 1, -1, 0, 3, -1);
        Check.due("no such hours", x.forged(1), 3);
        Check.row(x, 1, 2);
        Check.due("an empty book", x.forged(1), 0);
    }

    private static void forgedRefusals() {
        SlowOrder x = new SlowOrder();
        Check.due("no realm", x.forged(0), -2);
        Check.tell(x, LAND + order(0, "says 1", 0, 1, 0));
        Check.due("nothing", x.forged(0), -6);
        Check.due("no such slot", x.forged(4), -2);
        Check.due("no such slot", x.forged(-1), -2);
        Check.row(x, 0, 0, 0, 0, 0, 0);
        Check.due("not three each", x.forged(0), -2);
        Check.row(x, 0, 0, 0, 0, 0, 1, 0, 0);
        Check.due("no such order", x.forged(0), -2);
        Check.row(x, 0, 0, 0, 4, 0);
        Check.due("no such town", x.forged(0), -2);
        Check.row(x, 0, 0, -1, 0, 0);
        Check.due("no such order", x.forged(0), -2);
        Check.row(x, 0, 3, 1L << 32, 0, 0);
        Check.due("no such order", x.forged(0), -2);
        Check.row(x, 0, 3, 0, 1L << 32, 0);
        Check.due("no such town", x.forged(0), -2);
    }

    private static void agree() {
        // town 1 hears 6 at 9; 0 takes 4 hours
        SlowOrder x = Check.told(LAND + order(0, "says 5", 0, 1, 0) + order(0, "says 6", 0, 1, 5));
        Check.row(x, 0, 0, 1, 0, 8, 5, 1, 0, 7, -1);
        Check.due("at 4 alone", x.agree(0, 0), 1);
        Check.due("when", x.when(0, 0, 0), 4);
        Check.due("not so many", x.when(0, 0, 1), -1);
        Check.due("not so many", x.when(0, 0, -1), -1);
        Check.due("the other cannot make it so", x.agree(0, 1), 0);
        Check.due("none", x.when(0, 1, 0), -1);
        Check.row(x, 1, 0, 1, 0, 8, -1, 1, 0, 12, 6);
        // 0 comes at 9 (sent at 5), later not by 12: sent at 9 or later
        Check.due("two stretches", x.agree(1, 0), 1 + 11);
        Check.due("first", x.when(1, 0, 0), 5);
        Check.due("second", x.when(1, 0, 1), 9);
        Check.due("last", x.when(1, 0, 11), 19);
        Check.due("behind", x.when(1, 0, 12), -1);
        Check.row(x, 2, 0);
        Check.due("nothing seen: any hour", x.agree(2, 0), 20);
        Check.due("in thought alone", x.order(0, 6), 0);
        Check.due("in thought alone", x.holds(1, 0, 8), 5);
        Check.row(x, 2, 0, 1, 0, 8, 77);
        Check.due("held may be any", x.agree(2, 0), 0);
    }

    private static void sure() {
        SlowOrder x = Check.told(LAND + order(0, "says 5", 0, 1, 0) + order(0, "says 6", 0, 1, 5));
        Check.row(x, 1, 0, 1, 0, 8, -1, 1, 0, 12, 6);
        // sent at 5, 9 .. 19
        Check.due("at 12 by all", x.sure(1, 0, 1, 0, 12), 6);
        Check.due("at 13 not by all", x.sure(1, 0, 1, 0, 13), -5);
        Check.due("nothing by all", x.sure(1, 0, 2, 0, 13), -1);
        Check.due("nothing by all", x.sure(1, 0, 1, 0, 8), -1);
        Check.row(x, 1, 0, 1, 0, 8, 9);
        Check.due("there are none", x.sure(1, 0, 1, 0, 12), -5);
    }

    private static void widths() {
        SlowOrder x = Check.told(LAND + order(0, "says 5", 0, 1, 0));
        for (int width = 0; width < 4; width++) {
            Check.row(x, width, width, 1, 0, 3, -1, 1, 0, 4, 5);
            Check.due("nothing is -1 in any width", x.agree(width, 0), 1);
        }
        Check.row(x, 0, 0, 1 + 256, 512, 3 - 256, 255);
        Check.due("cut to a byte", x.agree(0, 0), 20);
        Check.row(x, 1, 1, 1 + 65536, 65536, 3 - 65536, 65535);
        Check.due("cut to two", x.agree(1, 0), 20);
        Check.row(x, 2, 2, 1 + (1L << 32), 1L << 40, 3 - (1L << 32), (1L << 32) - 1);
        Check.due("cut to four", x.agree(2, 0), 20);
        Check.row(x, 3, 3, 1, 0, 3, (1L << 32) - 1);
        Check.due("not cut: never held", x.agree(3, 0), 0);
        Check.row(x, 1, 1, 1, 0, 3, 255);
        Check.due("255 in two bytes is not nothing", x.agree(1, 0), 0);
        Check.row(x, 3, 3, 1 + (1L << 32), 0, 3, -1);
        Check.due("no such town", x.agree(3, 0), -2);
        Check.row(x, 3, 3, 1, 1L << 32, 3, -1);
        Check.due("no such thing", x.agree(3, 0), -2);
        Check.row(x, 3, 3, 1, 0, 3 + (1L << 32), -1);
        Check.due("no such hour", x.agree(3, 0), -2);
    }

    private static void refusedSeen(SlowOrder x, int slot, int order, int due) {
        Check.due("agree(" + slot + ", " + order + ")", x.agree(slot, order), due);
        Check.due("when(" + slot + ", " + order + ")", x.when(slot, order, 0), due);
        Check.due("sure(" + slot + ", " + order + ")", x.sure(slot, order, 0, 0, 0), due);
    }

    private static void seenRefusals() {
        SlowOrder x = new SlowOrder();
        refusedSeen(x, 0, 0, -2);
        Check.tell(x, LAND + order(0, "says 5", 0, 1, 0) + order(0, "undoes 0", 0, 1, 0));
        refusedSeen(x, 0, 0, -6);
        refusedSeen(x, 4, 0, -2);
        refusedSeen(x, -1, 0, -2);
        refusedSeen(x, 0, 2, -2);
        refusedSeen(x, 0, -1, -2);
        Check.row(x, 0, 0, 1, 0, 3, 5, 1);
        refusedSeen(x, 0, 0, -2);
        int[][] bad = {{4, 0, 0}, {-1, 0, 0}, {0, 3, 0}, {0, -1, 0}, {0, 0, 20}, {0, 0, -1}};
        for (int[] b : bad) {
            Check.row(x, 0, 0, 1, 0, 3, 9, b[0], b[1], b[2], 0);
            refusedSeen(x, 0, 0, -2);
            Check.row(x, 1, 0);
            Check.due("sure", x.sure(1, 0, b[0], b[1], b[2]), -2);
        }
        Check.row(x, 1, 0, 1, 0, 3, -1);
        Check.due("one that undoes may be asked for", x.agree(1, 1), 20);
        Check.row(x, 1, 0, 1, 0, 8, 5);
        Check.due("one that undoes may be asked for", x.agree(1, 1), 15);
    }

    private static void matters() {
        // 1 repeats what 0 said; 2 undoes 3, which never held; 4 undoes 0
        SlowOrder x = Check.told(LAND + order(0, "says 5", 0, 1, 0) + order(0, "says 5", 0, 1, 3)
            + order(0, "says 5", 0, 3, 0) + order(0, "undoes 2", 0, 1, 0) + order(0, "says 6", 2, 1, 0));
        Check.due("the first to say it", x.matters(0), 1);
        Check.due("it says it again", x.matters(1), 0);
        Check.due("it never comes", x.matters(2), 0);
        Check.due("it undoes what is not there", x.matters(3), 0);
        Check.due("holds for an hour", x.matters(4), 1);
        x.sends(4, 1);
        Check.due("of one hour with a lesser number", x.matters(0), 0);
        Check.due("no such", x.matters(5), -2);
        Check.due("no such", x.matters(-1), -2);
        x = Check.told(LAND + order(0, "says 5", 0, 1, 0) + order(1, "undoes 0", 0, 1, 0));
        Check.due("without it nothing is undone", x.matters(1), 1);
        x.seal(7);
        Check.due("sealed", x.matters(1), 0);
    }
}
