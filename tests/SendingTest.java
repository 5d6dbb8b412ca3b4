/** Promises 20 to 26: sends, latest, earliest, ways, best, delay, queen. */
public final class SendingTest {
    // 0 - 1 two hours, 1 - 2 three, 0 - 2 nine; 3 is an island
    private static final String LAND = "realm towns 4 hours 30;road 0 to 1 hours 2;road 1 to 2 hours 3;"
        + "road 0 to 2 hours 9;rider pace 2 rests 1;rider pace 1 rests 0;";

    public static void main(String[] args) {
        sends();
        latestAndEarliest();
        sealedAndUndone();
        waysAndBest();
        bestByWay();
        delay();
        delayBeyond();
        queen();
        queenAndFloods();
        Check.finish();
    }

    private static void sends() {
        SlowOrder x = Check.told(LAND + "order rider 0 on 0 says 5 from 0 to 2 at 3;");
        Check.due("comes", x.comes(0), 14);
        Check.due("at which it was", x.sends(0, 10), 3);
        Check.due("comes", x.comes(0), 21);
        Check.due("passes", x.passes(0, 1), 14);
        Check.due("hour", x.order(0, 6), 10);
        Check.due("at which it was", x.sends(0, 29), 10);
        Check.due("never", x.comes(0), -1);
        Check.due("at which it was", x.sends(0, 0), 29);
        Check.due("no such hour", x.sends(0, 30), -2);
        Check.due("no such hour", x.sends(0, -1), -2);
        Check.due("no such order", x.sends(1, 0), -2);
        Check.due("no such order", x.sends(-1, 0), -2);
        Check.due("stays", x.order(0, 6), 0);
    }

    private static void latestAndEarliest() {
        // 1 comes at 15; 0 goes by 1, which takes 11
        SlowOrder x = Check.told(LAND + "order rider 0 on 0 says 5 from 0 to 2 at 3;"
            + "order rider 1 on 0 says 6 from 0 to 2 at 10;order rider 1 on 0 undoes 0 from 3 to 0 at 0;");
        Check.due("latest ahead of the other", x.latest(0, 14), 3);
        Check.due("earliest ahead of the other", x.earliest(0, 14), 0);
        Check.due("not before it can come", x.latest(0, 10), -1);
        Check.due("not before it can come", x.earliest(0, 10), -1);
        Check.due("just", x.latest(0, 11), 0);
        Check.due("of one hour the other holds", x.latest(0, 15), -1);
        Check.due("behind the other", x.latest(0, 29), 18);
        Check.due("behind the other", x.earliest(0, 29), 5);
        Check.due("the greater number holds", x.earliest(1, 29), 9);
        Check.due("latest", x.latest(1, 29), 24);
        Check.due("in thought alone", x.order(0, 6), 3);
        Check.due("in thought alone", x.holds(2, 0, 29), 6);
        Check.due("it undoes", x.latest(2, 29), -2);
        Check.due("it undoes", x.earliest(2, 29), -2);
        Check.due("it undoes", x.ways(2, 29), -2);
        Check.due("it undoes", x.best(2, 29, 0), -2);
        int[][] bad = {{3, 0}, {-1, 0}, {0, 30}, {0, -1}};
        for (int[] b : bad) {
            Check.due("latest", x.latest(b[0], b[1]), -2);
            Check.due("earliest", x.earliest(b[0], b[1]), -2);
            Check.due("ways", x.ways(b[0], b[1]), -2);
            Check.due("best", x.best(b[0], b[1], 0), -2);
        }
        Check.due("no such what", x.best(0, 29, 3), -2);
        Check.due("no such what", x.best(0, 29, -1), -2);
    }

    private static void sealedAndUndone() {
        SlowOrder x = Check.told(LAND + "order rider 1 on 0 says 5 from 0 to 2 at 3;seal 12;");
        Check.due("no later than the seal", x.latest(0, 29), 7);
        Check.due("eleven hours of the slow one", x.best(0, 29, 1), 0);
        x = Check.told(LAND + "order rider 1 on 0 says 5 from 0 to 2 at 3;"
            + "order rider 1 on 1 undoes 0 from 0 to 2 at 9;");
        Check.due("undone from 14 on", x.latest(0, 13), 8);
        Check.due("undone", x.latest(0, 14), -1);
        Check.due("undone", x.ways(0, 14), 0);
        Check.due("undone", x.best(0, 14, 0), -1);
        // as it is: with its own way
        x = Check.told(LAND + "order rider 1 on 0 says 5 from 0 to 1 at 0 via 2;");
        Check.due("by 1 to 2 and back", x.latest(0, 20), 12);
        Check.due("straight it could be later", x.best(0, 2, 1), 0);
    }

    private static void waysAndBest() {
        SlowOrder x = Check.told(LAND + "order rider 0 on 0 says 5 from 0 to 1 at 3;");
        // the slow rider takes 4 by none, 0, 1; by 2 it is 10 + 1 + 1 + 6 (rests in 1 and 2)
        // the swift one takes 2, 2, 2 and 8; by the island there is no way
        Check.due("none", x.ways(0, 1), 0);
        Check.due("none", x.best(0, 1, 0), -1);
        Check.due("none", x.best(0, 1, 2), -1);
        Check.due("the swift one alone", x.ways(0, 2), 3);
        Check.due("rider", x.best(0, 2, 0), 1);
        Check.due("hour", x.best(0, 2, 1), 0);
        Check.due("by none", x.best(0, 2, 2), -1);
        Check.due("both", x.ways(0, 4), 3 * 1 + 3 * 3);
        Check.due("rider", x.best(0, 4, 0), 0);
        Check.due("hour", x.best(0, 4, 1), 0);
        int slow = 3 * (29 - 4 + 1) + (29 - 18 + 1);
        int swift = 3 * (29 - 2 + 1) + (29 - 8 + 1);
        Check.due("all", x.ways(0, 29), slow + swift);
    }

    private static void bestByWay() {
        // only by way of 2 (two hours longer) it comes behind the other one, at once
        SlowOrder x = Check.told("realm towns 3 hours 9;road 0 to 1 hours 2;road 0 to 2 hours 2;road 2 to 1 hours 2;"
            + "rider pace 1 rests 0;order rider 0 on 0 says 5 from 0 to 1 at 0;order rider 0 on 0 says 6 from 0 to 1 at 1;");
        Check.due("rider", x.best(0, 4, 0), 0);
        Check.due("hour", x.best(0, 4, 1), 0);
        Check.due("by way of", x.best(0, 4, 2), 2);
        Check.due("it and those at 2", x.ways(0, 4), 1 + 3);
        Check.due("latest as it is", x.latest(0, 4), 2);
    }

    private static void delay() {
        // in town 2: 0 comes at 5, 1 at 8, 2 at 10
        SlowOrder x = Check.told(LAND + "order rider 1 on 0 says 5 from 0 to 2 at 0;"
            + "order rider 1 on 0 says 6 from 0 to 2 at 3;order rider 1 on 0 says 7 from 1 to 2 at 7;");
        Check.due("it is so", x.delay(2, 0, 7, 20, 0), 0);
        Check.due("of none", x.delay(2, 0, 7, 20, 1), -1);
        Check.due("later than 2, by number at 11", x.delay(2, 0, 6, 20, 0), 3);
        Check.due("order", x.delay(2, 0, 6, 20, 1), 1);
        Check.due("0 from 5 to 11", x.delay(2, 0, 5, 20, 0), 6);
        Check.due("order", x.delay(2, 0, 5, 20, 1), 0);
        Check.due("held up behind the hour", x.delay(2, 0, 6, 10, 0), 1);
        Check.due("order", x.delay(2, 0, 6, 10, 1), 2);
        Check.due("nothing", x.delay(2, 0, -1, 5, 0), 1);
        Check.due("of order", x.delay(2, 0, -1, 5, 1), 0);
        Check.due("nothing, two are there", x.delay(2, 0, -1, 8, 0), -1);
        Check.due("no one", x.delay(2, 0, 9, 20, 0), -1);
        Check.due("no one", x.delay(2, 0, 9, 20, 1), -1);
        Check.due("nothing is so", x.delay(2, 1, -1, 20, 0), 0);
        Check.due("in thought alone", x.holds(2, 0, 20), 7);
        // of several the first
        x = Check.told(LAND + "order rider 1 on 0 says 5 from 0 to 1 at 0;order rider 1 on 0 says 5 from 0 to 1 at 0;"
            + "order rider 1 on 0 says 6 from 0 to 1 at 1;");
        Check.due("first of several", x.delay(1, 0, 5, 9, 0), 2);
        Check.due("first of several", x.delay(1, 0, 5, 9, 1), 0);
        int[][] bad = {{4, 0, 0, 0, 0}, {-1, 0, 0, 0, 0}, {0, 3, 0, 0, 0}, {0, -1, 0, 0, 0}, {0, 0, 10, 0, 0},
            {0, 0, -2, 0, 0}, {0, 0, 0, 30, 0}, {0, 0, 0, -1, 0}, {0, 0, 0, 0, 2}, {0, 0, 0, 0, -1}};
        for (int[] b : bad) {
            Check.due("delay", x.delay(b[0], b[1], b[2], b[3], b[4]), -2);
        }
    }

    private static void delayBeyond() {
        // it must not come at all by the last hour: 24 + 5 is the last that comes
        SlowOrder x = Check.told(LAND + "order rider 1 on 0 says 5 from 0 to 2 at 0;");
        Check.due("so late that it never comes", x.delay(2, 0, -1, 29, 0), 25);
        Check.due("order", x.delay(2, 0, -1, 29, 1), 0);
        x = Check.told("realm towns 2 hours 5;road 0 to 1 hours 1;rider pace 1 rests 0;"
            + "order rider 0 on 0 says 5 from 0 to 1 at 3;");
        Check.due("beyond the last hour", x.delay(1, 0, -1, 4, 0), 1);
        // an undoing that is held up
        x = Check.told(LAND + "order rider 1 on 0 says 5 from 0 to 1 at 0;order rider 1 on 0 undoes 0 from 0 to 1 at 3;");
        Check.due("an undoing held up", x.delay(1, 0, 5, 9, 0), 5);
        Check.due("an undoing held up", x.delay(1, 0, 5, 9, 1), 1);
    }

    private static void queen() {
        SlowOrder x = Check.told(LAND + "order rider 1 on 0 says 5 from 0 to 2 at 3;");
        Check.due("ahead of all", x.queen(0, 2, 0, 7, 7), 2);
        Check.due("not in time", x.queen(0, 2, 0, 7, 4), -1);
        Check.due("at the last moment", x.queen(0, 2, 0, 7, 5), 0);
        Check.due("of one hour hers", x.queen(0, 2, 0, 7, 8), 3);
        Check.due("later", x.queen(0, 2, 0, 7, 29), 24);
        Check.due("about another thing", x.queen(0, 2, 1, 7, 7), 2);
        Check.due("from elsewhere", x.queen(1, 2, 0, 7, 29), 26);
        Check.due("no way", x.queen(3, 2, 0, 7, 29), -1);
        Check.due("whatever she says", x.queen(0, 2, 0, 5, 29), 24);
        Check.due("she is not told", x.count(5), 1);
        Check.due("nor does hers hold", x.holds(2, 0, 29), 5);
        Check.due("nor is hers an order", x.comes(1), -2);
        Check.due("one town", x.queen(2, 2, 0, 7, 29), -2);
        int[][] bad = {{4, 0, 0, 0, 0}, {-1, 0, 0, 0, 0}, {0, 4, 0, 0, 0}, {0, -1, 0, 0, 0}, {0, 1, 3, 0, 0},
            {0, 1, -1, 0, 0}, {0, 1, 0, 10, 0}, {0, 1, 0, -1, 0}, {0, 1, 0, 0, 30}, {0, 1, 0, 0, -1}};
        for (int[] b : bad) {
            Check.due("queen", x.queen(b[0], b[1], b[2], b[3], b[4]), -2);
        }
        x.seal(9);
        Check.due("no later than the seal", x.queen(0, 2, 0, 7, 29), 4);
        x.seal(7);
        Check.due("sealed, the other never counts", x.queen(0, 2, 0, 7, 29), 2);
    }

    private static void queenAndFloods() {
        SlowOrder x = Check.told(LAND + "flood 1 to 2 from 5 to 9;");
        Check.due("she waits as others do", x.queen(0, 2, 0, 0, 13), 8);
        Check.due("ahead of the flood", x.queen(0, 2, 0, 0, 12), 2);
        // ten orders are told, hers is one more
        x = Check.told(LAND + "order rider 1 on 0 says 5 from 0 to 2 at 3;".repeat(10));
        Check.due("eleventh", x.queen(0, 2, 0, 7, 8), 3);
        Check.due("not behind", x.holds(2, 0, 8), 5);
        Check.due("ten", x.whose(2, 0, 8), 9);
    }
}
