/** Promises 27 to 30: wish, rest, rests, sent. */
public final class WishTest {
    private static final String LAND = "realm towns 3 hours 20;road 0 to 1 hours 2;road 1 to 2 hours 2;"
        + "rider pace 1 rests 0;";

    public static void main(String[] args) {
        wish();
        rest();
        ministers();
        unlikeHours();
        noWishes();
        wrong();
        Check.finish();
    }

    private static String order(int says, int to, int hour) {
        return "order rider 0 on 0 says " + says + " from " + (to == 0 ? 2 : 0) + " to " + to + " at " + hour + ";";
    }

    private static void wish() {
        SlowOrder x = Check.told(LAND + order(5, 1, 0) + order(6, 1, 3) + order(5, 1, 9) + order(1, 2, 0)
            + "wish 0 says 5 in 1 at 4;wish 1 says 6 in 1 at 4;wish 3 says 5 in 1 at 11;");
        Check.due("had", x.wish(0), 1);
        Check.due("not had", x.wish(1), 0);
        Check.due("has none", x.wish(2), -1);
        Check.due("of another's town, said by another", x.wish(3), 1);
        x.sends(0, 4);
        Check.due("not any more", x.wish(0), 0);
        x.sends(1, 2);
        Check.due("had now", x.wish(1), 1);
        Check.due("no such order", x.wish(4), -2);
        Check.due("no such order", x.wish(-1), -2);
    }

    private static void rest() {
        SlowOrder x = Check.told(LAND + order(5, 1, 0) + order(6, 1, 3)
            + "wish 0 says 5 in 1 at 4;wish 1 says 6 in 1 at 9;");
        Check.due("all rest", x.rest(), -1);
        x.sends(0, 5);
        Check.due("the first could", x.rest(), 0);
        // town 1 hears 5 at 7 and 6 at 12: neither is had by 4 or 9
        x.sends(1, 10);
        Check.due("the first of both", x.rest(), 0);
        x.sends(0, 2);
        Check.due("the second", x.rest(), 1);
        // nobody can come by 1: such a wish makes nobody restless
        x = Check.told(LAND + order(5, 1, 0) + "wish 0 says 5 in 1 at 1;");
        Check.due("not had", x.wish(0), 0);
        Check.due("nor would it be", x.rest(), -1);
        // not had as it says something else, but by leaving the field to another
        x = Check.told(LAND + order(5, 1, 2) + order(7, 1, 0) + "wish 0 says 7 in 1 at 5;");
        Check.due("by being sent late", x.rest(), 0);
        Check.due("rests", x.rests(1), 1);
        Check.due("first hour: ahead of the other, of one hour", x.sent(0, 1), 0);
    }

    private static void ministers() {
        // both want the last word in town 1 at 10
        SlowOrder x = Check.told(LAND + order(5, 1, 0) + order(6, 1, 3)
            + "wish 0 says 5 in 1 at 10;wish 1 says 6 in 1 at 10;");
        Check.due("the first is restless", x.rest(), 0);
        // 0 goes at 4, 1 at 4 (its number is greater), 0 at 5, 1 at 5, .., 1 at 8: no later one comes by 10
        Check.due("not yet", x.rests(0), -1);
        Check.due("not yet", x.rests(9), -1);
        Check.due("all rest", x.rests(10), 10);
        Check.due("all rest", x.rests(50), 10);
        int[] first = {0, 4, 4, 5, 5, 6, 6, 7, 7, 8, 8, 8};
        int[] second = {3, 3, 4, 4, 5, 5, 6, 6, 7, 7, 8, 8};
        for (int n = 0; n < first.length; n++) {
            Check.due("sent(0, " + n + ")", x.sent(0, n), first[n]);
            Check.due("sent(1, " + n + ")", x.sent(1, n), second[n]);
        }
        Check.due("behind all", x.sent(1, 50), 8);
        Check.due("in thought alone", x.order(0, 6), 0);
        Check.due("in thought alone", x.holds(1, 0, 10), 6);
        Check.due("still restless", x.rest(), 0);
    }

    private static void unlikeHours() {
        // each move of the one unsettles the other, till 0 comes at 7, behind the hour of 1's wish
        SlowOrder x = Check.told(LAND + order(5, 1, 0) + order(6, 1, 0)
            + "wish 0 says 5 in 1 at 10;wish 1 says 6 in 1 at 6;");
        Check.due("one of them", x.rest(), 0);
        Check.due("not yet", x.rests(8), -1);
        Check.due("all rest", x.rests(9), 9);
        Check.due("the first hour by which it would be had", x.sent(0, 1), 1);
        Check.due("not the other one yet", x.sent(1, 1), 0);
        Check.due("the other one then", x.sent(1, 2), 1);
        Check.due("in the end", x.sent(0, 50), 5);
        Check.due("in the end", x.sent(1, 50), 4);
    }

    private static void noWishes() {
        SlowOrder x = Check.told(LAND + order(5, 1, 0));
        Check.due("rest", x.rest(), -1);
        Check.due("rests", x.rests(0), 0);
        Check.due("sent", x.sent(0, 0), 0);
        x.sends(0, 7);
        Check.due("sent", x.sent(0, 50), 7);
        x = Check.told(LAND);
        Check.due("no orders", x.rest(), -1);
        Check.due("no orders", x.rests(50), 0);
        Check.due("no orders", x.sent(0, 0), -2);
    }

    private static void wrong() {
        SlowOrder x = Check.told(LAND + order(5, 1, 0));
        Check.due("rests", x.rests(-1), -2);
        Check.due("rests", x.rests(51), -2);
        Check.due("sent", x.sent(0, -1), -2);
        Check.due("sent", x.sent(0, 51), -2);
        Check.due("sent", x.sent(1, 0), -2);
        Check.due("sent", x.sent(-1, 0), -2);
    }
}
