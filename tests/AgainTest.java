/** Nothing of an earlier realm, or of a thought, is left behind; and each call may be the first one. */
public final class AgainTest {
    private static final String LAND = "realm towns 3 hours 20;road 0 to 1 hours 2;road 1 to 2 hours 2;"
        + "rider pace 1 rests 0;";
    private static final String SAYS = "order rider 0 on 0 says 5 from 0 to 1 at 0;";
    private static final String UNDOES = "order rider 0 on 0 undoes 0 from 0 to 1 at 2;";

    public static void main(String[] args) {
        earlierRealm();
        earlierOrders();
        earlierSeats();
        earlierWays();
        thoughts();
        firstCalls();
        Check.finish();
    }

    private static void earlierRealm() {
        SlowOrder x = Check.told("realm towns 4 hours 20;road 0 to 3 hours 1;road 3 to 2 hours 1;road 0 to 2 hours 9;"
            + "flood 0 to 3 from 0 to 19;seal 3;");
        Check.tell(x, "realm towns 4 hours 20;road 0 to 1 hours 2;rider pace 1 rests 0;" + SAYS);
        Check.due("no road any more", x.hours(0, 3), -1);
        Check.due("no way any more", x.way(0, 2, 1), -1);
        Check.due("no flood any more", x.comes(0), 2);
        Check.due("no seal any more", x.count(8), 99);
        Check.due("nor holds it", x.holds(1, 0, 19), 5);
        Check.due("floods", x.count(3), 0);
        // the third road was from 0 to 1, and is as long now as the way from 0 to 1 is
        Check.tell(x, "realm towns 4 hours 20;road 2 to 3 hours 1;road 1 to 3 hours 1;road 0 to 1 hours 1;");
        Check.tell(x, "realm towns 4 hours 20;road 0 to 2 hours 2;road 2 to 1 hours 2;road 0 to 3 hours 4;");
        Check.due("not by the third road", x.way(0, 1, 1), 2);
        Check.due("but by two", x.way(0, 1, 2), 1);
    }

    private static void earlierOrders() {
        SlowOrder x = Check.told(LAND + SAYS.replace(";", " via 2 1 2;") + UNDOES + "wish 0 says 5 in 1 at 19;");
        Check.due("long way", x.comes(0), 10);
        Check.tell(x, LAND + SAYS + SAYS);
        Check.due("no via any more", x.comes(0), 2);
        Check.due("no wish any more", x.wish(0), -1);
        Check.due("no undoing any more", x.order(1, 3), -1);
        Check.due("nothing undone", x.undone(1, 19), 0);
        Check.tell(x, LAND + SAYS + UNDOES);
        Check.due("no saying any more", x.order(1, 2), -1);
        Check.due("undone", x.undone(1, 19), 1);
        Check.due("a fault", Check.tell(x, LAND + SAYS.replace("says 5", "says 9") + SAYS.replace("5", "99")), -4);
        Check.due("what was read ahead of it is not told", x.order(0, 2), 5);
    }

    /** A way of fewer towns behind one of many: nothing of the longer one counts. */
    private static void earlierWays() {
        String land = "realm towns 5 hours 60;road 0 to 1 hours 2;road 1 to 2 hours 2;road 2 to 3 hours 2;"
            + "road 3 to 4 hours 2;rider pace 1 rests 0;";
        String there = "order rider 0 on 0 says 5 from 0 to 4 at ";
        String back = "order rider 0 on 0 says 5 from 4 to 0 at ";
        // the longer one went from 1 to 2 from 10 to 12
        SlowOrder x = Check.told(land + there + "8;" + back + "7;");
        Check.due("they cross", x.meets(0, 1), 1);
        Check.tell(x, land + there.replace("to 4", "to 1") + "9;" + back.replace("4 to 0", "2 to 1") + "11;");
        int[] where = {-1, 11, 11, 1, -1, -1, -1};
        for (int hour = 8; hour < 15; hour++) {
            Check.due("rider(0, " + hour + ")", x.rider(0, hour), where[hour - 8]);
        }
        Check.due("no third town", x.passes(0, 2), -1);
        Check.due("they do not cross", x.meets(0, 1), 0);
        Check.due("nor the other way round", x.meets(1, 0), 0);
        for (int town = 2; town < 5; town++) {
            for (int hour = 0; hour < 12; hour++) {
                Check.row(x, 0, 0, 0, town, hour);
                Check.due("nor does he come to " + town, x.forged(0), 1);
            }
        }
    }

    private static void earlierSeats() {
        SlowOrder x = Check.told(LAND + SAYS + SAYS + UNDOES);
        Check.tell(x, LAND + "order rider 0 on 0 says 7 from 1 to 2 at 4;order rider 0 on 1 says 8 from 1 to 2 at 4;");
        Check.due("holds there", x.holds(2, 0, 19), 7);
        Check.due("about the other thing", x.whose(2, 1, 19), 1);
        Check.due("not here", x.holds(1, 0, 19), -1);
        Check.due("queen behind an undoing", x.queen(0, 2, 0, 3, 19), 15);
        Check.tell(x, LAND + SAYS);
        Check.due("one order alone", x.holds(2, 0, 19), -1);
        x.realm();
        Check.due("none", x.holds(1, 0, 0), -2);
        Check.tell(x, LAND);
        Check.due("no orders", x.holds(1, 0, 19), -1);
        Check.due("queen behind another realm's order", x.queen(0, 1, 0, 3, 19), 17);
        Check.due("not behind", x.holds(1, 0, 19), -1);
    }

    private static void unmoved(SlowOrder x, String behind) {
        Check.due("holds behind " + behind, x.holds(1, 0, 19), 6);
        Check.due("whose behind " + behind, x.whose(1, 0, 19), 1);
        Check.due("early behind " + behind, x.holds(1, 0, 4), 5);
        Check.due("beyond the seal behind " + behind, x.holds(2, 0, 19), -1);
        Check.due("hour behind " + behind, x.order(0, 6), 0);
        Check.due("comes behind " + behind, x.comes(0), 2);
        Check.due("seal behind " + behind, x.count(8), 10);
        Check.due("orders behind " + behind, x.count(5), 3);
    }

    private static void thoughts() {
        SlowOrder x = Check.told(LAND + SAYS + "order rider 0 on 0 says 6 from 0 to 1 at 3;"
            + "order rider 0 on 0 says 7 from 1 to 2 at 10;wish 0 says 5 in 1 at 9;wish 1 says 6 in 1 at 9;seal 10;");
        unmoved(x, "nothing");
        x.discord(0);
        unmoved(x, "discord");
        x.just(0);
        unmoved(x, "just");
        x.latest(0, 19);
        unmoved(x, "latest");
        x.earliest(0, 19);
        unmoved(x, "earliest");
        x.best(0, 19, 0);
        unmoved(x, "best");
        x.delay(1, 0, 5, 19, 0);
        unmoved(x, "delay");
        x.queen(0, 1, 0, 9, 19);
        unmoved(x, "queen");
        x.rest();
        unmoved(x, "rest");
        x.rests(50);
        unmoved(x, "rests");
        x.sent(0, 50);
        unmoved(x, "sent");
        x.row(0, 0, 4);
        x.agree(0, 0);
        unmoved(x, "agree");
        x.when(0, 0, 0);
        unmoved(x, "when");
        x.sure(0, 0, 0, 0, 0);
        unmoved(x, "sure");
        x.matters(0);
        unmoved(x, "matters");
        x.year(3, 100, 0);
        unmoved(x, "year");
        for (int seed = 0; seed < 30; seed++) {
            x.years(seed, 1, 100, 1, 0, 5, 19);
            unmoved(x, "years");
        }
    }

    /** What is thought out once and kept must not be taken for granted. */
    private static void firstCalls() {
        String told = LAND + SAYS + "order rider 0 on 0 says 6 from 0 to 1 at 3;"
            + "wish 0 says 5 in 1 at 10;wish 1 says 6 in 1 at 10;";
        Check.due("rest", Check.told(told).rest(), 0);
        Check.due("rests", Check.told(told).rests(50), 10);
        Check.due("sent", Check.told(told).sent(0, 3), 5);
        Check.due("latest", Check.told(told).latest(0, 19), 17);
        Check.due("earliest", Check.told(told).earliest(0, 19), 4);
        Check.due("delay", Check.told(told).delay(1, 0, 5, 19, 0), 4);
        Check.due("peace", Check.told(told).peace(0), -1);
        Check.due("peace", Check.told(LAND + SAYS + "order rider 0 on 0 says 5 from 1 to 0 at 3;"
            + "order rider 0 on 0 says 5 from 1 to 2 at 7;").peace(0), 9);
        Check.due("discord of one order", Check.told(LAND + SAYS).discord(0), 36);
        Check.due("peace after another thing's", peaceAfterDiscord(), 0);
    }

    private static int peaceAfterDiscord() {
        SlowOrder x = Check.told(LAND + SAYS);
        x.discord(0);
        return x.peace(1);
    }
}
