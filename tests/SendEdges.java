/** Promises 20 to 26 and Term IV: the sentences that name a boundary case. */
final class SendEdges {
    // 0 - 1 two hours, 1 - 2 three, 0 - 2 nine; 3 is an island; rider 1 takes 5 hours from 0 to 2, rider 0 takes 11
    private static final String LAND = "realm towns 4 hours 30;road 0 to 1 hours 2;road 1 to 2 hours 3;"
        + "road 0 to 2 hours 9;rider pace 2 rests 1;rider pace 1 rests 0;";
    private static final String SMALL = "realm towns 2 hours 5;road 0 to 1 hours 1;rider pace 1 rests 0;";
    // from 0 to 1 one hour straight, three by 2 or by 3
    private static final String ROUND = "realm towns 4 hours 20;road 0 to 1 hours 1;road 0 to 2 hours 1;"
        + "road 2 to 1 hours 2;road 0 to 3 hours 1;road 3 to 1 hours 2;";
    private static final int MOST = Integer.MAX_VALUE;
    private static final int LEAST = Integer.MIN_VALUE;

    private SendEdges() {
    }

    static void all() {
        sends();
        noSuchSends();
        latestInTime();
        latestOfOneHour();
        latestHeldUp();
        latestAsItIs();
        latestUndone();
        noSuchSending();
        ways();
        waysOfMost();
        allElseAsTold();
        bestInOrder();
        noSuchWhat();
        delayNone();
        delayFewest();
        delayNever();
        noSuchDelay();
        queen();
        queenAsLast();
        queenLikeRiders();
        noSuchQueen();
    }

    private static String says(int rider, int says, int from, int to, int hour) {
        return "order rider " + rider + " on 0 says " + says + " from " + from + " to " + to + " at " + hour + ";";
    }

    private static String undoes(int rider, int order, int from, int to, int hour) {
        return says(rider, order, from, to, hour).replace("says", "undoes");
    }

    private static void sentAt(SlowOrder x, int order, int hour, int earliest, int latest) {
        Check.due("earliest(" + order + ", " + hour + ")", x.earliest(order, hour), earliest);
        Check.due("latest(" + order + ", " + hour + ")", x.latest(order, hour), latest);
    }

    private static void bestIs(SlowOrder x, int order, int hour, int rider, int sent, int via) {
        Check.due("best(" + order + ", " + hour + ", 0)", x.best(order, hour, 0), rider);
        Check.due("best(" + order + ", " + hour + ", 1)", x.best(order, hour, 1), sent);
        Check.due("best(" + order + ", " + hour + ", 2)", x.best(order, hour, 2), via);
    }

    // ---- promise 20 ----

    private static void sends() {
        Check.promise(20, "An ORDER is sent at another HOUR from now on: at which it was");
        SlowOrder x = Check.told(LAND + says(1, 5, 0, 2, 3) + undoes(1, 0, 0, 2, 7));
        Check.due("the last HOUR", x.sends(0, 29), 3);
        Check.due("never comes", x.comes(0), -1);
        Check.due("his HOUR", x.order(0, 6), 29);
        Check.due("the first HOUR", x.sends(0, 0), 29);
        Check.due("comes", x.comes(0), 5);
        Check.due("passes", x.passes(0, 1), 2);
        Check.due("rider", x.rider(0, 0), 11);
        Check.due("holds", x.holds(2, 0, 5), 5);
        Check.due("the same HOUR again", x.sends(0, 0), 0);
        Check.due("one that undoes", x.sends(1, 1), 7);
        Check.due("undone", x.undone(2, 6), 1);
        Check.due("just in time", x.sends(0, 24), 0);
        Check.due("comes", x.comes(0), 29);
        Check.due("one later", x.sends(0, 25), 24);
        Check.due("comes", x.comes(0), -1);
    }

    private static void noSuchSends() {
        Check.promise(20, "-2: there are none such");
        SlowOrder x = Check.told(LAND + says(1, 5, 0, 2, 3));
        int[][] bad = {{0, 30}, {0, 99}, {0, -1}, {0, MOST}, {0, LEAST}, {1, 0}, {9, 0}, {10, 0}, {-1, 0}, {MOST, 0},
            {LEAST, 0}, {1, 30}};
        for (int[] b : bad) {
            Check.due("sends(" + b[0] + ", " + b[1] + ")", x.sends(b[0], b[1]), -2);
            Check.due("its HOUR stays", x.order(0, 6), 3);
            Check.due("it comes as before", x.comes(0), 8);
        }
    }

    // ---- promises 21 and 22 ----

    private static void latestInTime() {
        SlowOrder x = Check.told(LAND + says(1, 5, 0, 2, 20));
        Check.promise(22, "The earliest one so");
        sentAt(x, 0, 29, 0, 24);
        sentAt(x, 0, 28, 0, 23);
        sentAt(x, 0, 6, 0, 1);
        sentAt(x, 0, 5, 0, 0);
        Check.promise(21, "NONE: at none");
        sentAt(x, 0, 4, -1, -1);
        sentAt(x, 0, 0, -1, -1);
        Check.due("in thought alone", x.order(0, 6), 20);
        Check.due("in thought alone", x.comes(0), 25);
        x = Check.told(SMALL + says(0, 5, 0, 1, 0));
        sentAt(x, 0, 4, 0, 3);
        sentAt(x, 0, 1, 0, 0);
        x = Check.told(LAND + says(1, 5, 0, 3, 0));
        sentAt(x, 0, 29, -1, -1);
        Check.promise(21, "the latest HOUR at which an ORDER as it is can be sent so that it is the one that HOLDS");
        x = Check.told(LAND + says(1, 5, 0, 2, 0) + "seal 12;");
        sentAt(x, 0, 29, 0, 7);
        sentAt(x, 0, 12, 0, 7);
        sentAt(x, 0, 11, 0, 6);
        x.seal(5);
        sentAt(x, 0, 29, 0, 0);
        x.seal(4);
        sentAt(x, 0, 29, -1, -1);
    }

    private static void latestOfOneHour() {
        Check.promise(21, "so that it is the one that HOLDS where it is to come at an HOUR");
        // 0 comes at 15, 1 at 10
        SlowOrder x = Check.told(LAND + says(1, 5, 0, 2, 10) + says(1, 6, 0, 2, 5));
        sentAt(x, 0, 9, 0, 4);
        sentAt(x, 0, 10, -1, -1);
        sentAt(x, 0, 11, 6, 6);
        sentAt(x, 0, 29, 6, 24);
        sentAt(x, 1, 14, 0, 9);
        sentAt(x, 1, 15, 10, 10);
        sentAt(x, 1, 29, 10, 24);
        // the same said by another is not it
        x = Check.told(LAND + says(1, 5, 0, 2, 10) + says(1, 5, 0, 2, 5));
        sentAt(x, 0, 10, -1, -1);
        // another's coming in the last HOUR
        x = Check.told(LAND + says(1, 5, 0, 2, 10) + says(1, 6, 0, 2, 24));
        sentAt(x, 0, 28, 0, 23);
        sentAt(x, 0, 29, -1, -1);
        sentAt(x, 1, 29, 10, 24);
        // elsewhere, and about another THING, another is not in the way
        x = Check.told(LAND + says(1, 5, 0, 2, 10) + says(1, 6, 0, 1, 10) + says(1, 6, 0, 2, 24).replace("on 0", "on 1"));
        sentAt(x, 0, 29, 0, 24);
    }

    private static void latestHeldUp() {
        Check.promise(21, "the latest HOUR");
        SlowOrder x = Check.told(LAND + "flood 0 to 1 from 20 to 23;" + says(1, 5, 0, 2, 0));
        sentAt(x, 0, 29, 0, 24);
        sentAt(x, 0, 28, 0, 19);
        x = Check.told(LAND + "flood 0 to 1 from 20 to 24;" + says(1, 5, 0, 2, 0));
        sentAt(x, 0, 29, 0, 19);
        x = Check.told(LAND + "flood 0 to 1 from 0 to 3;" + says(1, 5, 0, 2, 9) + says(1, 6, 0, 2, 4));
        sentAt(x, 1, 9, 0, 4);
        sentAt(x, 0, 10, 5, 5);
        sentAt(x, 0, 8, -1, -1);
        // held up on the second road
        x = Check.told(LAND + "flood 1 to 2 from 24 to 28;" + says(1, 5, 0, 2, 0));
        sentAt(x, 0, 29, 0, 21);
        // held up through the last HOUR
        x = Check.told(LAND + "flood 1 to 2 from 2 to 29;" + says(1, 5, 0, 2, 0));
        sentAt(x, 0, 29, -1, -1);
    }

    private static void latestAsItIs() {
        Check.promise(21, "an ORDER as it is");
        SlowOrder x = Check.told(LAND + says(0, 5, 0, 2, 3) + says(1, 6, 0, 1, 0).replace(";", " via 2;"));
        sentAt(x, 0, 29, 0, 18);
        sentAt(x, 0, 11, 0, 0);
        sentAt(x, 0, 10, -1, -1);
        sentAt(x, 1, 29, 0, 21);
        sentAt(x, 1, 8, 0, 0);
        sentAt(x, 1, 7, -1, -1);
        x.sends(0, 17);
        sentAt(x, 0, 29, 0, 18);
    }

    private static void latestUndone() {
        Check.promise(21, "the one that HOLDS");
        SlowOrder x = Check.told(LAND + says(1, 5, 0, 2, 3) + undoes(1, 0, 0, 2, 9));
        sentAt(x, 0, 13, 0, 8);
        sentAt(x, 0, 14, -1, -1);
        sentAt(x, 0, 29, -1, -1);
        // of two the one that is undone is not in the way
        x = Check.told(LAND + says(1, 5, 0, 2, 3) + says(1, 6, 0, 2, 4) + undoes(1, 1, 0, 2, 9));
        sentAt(x, 0, 13, 5, 8);
        sentAt(x, 0, 14, 0, 9);
    }

    private static void noSuchSending() {
        SlowOrder x = Check.told(LAND + says(1, 5, 0, 2, 3) + undoes(1, 0, 0, 2, 9));
        int[][] bad = {{2, 0}, {9, 0}, {10, 0}, {-1, 0}, {MOST, 0}, {LEAST, 0}, {0, 30}, {0, 99}, {0, -1}, {0, MOST},
            {0, LEAST}, {1, 0}, {1, 29}, {1, 30}, {2, 30}};
        for (int[] b : bad) {
            String at = "(" + b[0] + ", " + b[1] + ")";
            Check.promise(21, "-2: there are none such, it undoes");
            Check.due("latest" + at, x.latest(b[0], b[1]), -2);
            Check.promise(22, "NONE, -2 likewise");
            Check.due("earliest" + at, x.earliest(b[0], b[1]), -2);
            Check.promise(23, "-2 likewise");
            Check.due("ways" + at, x.ways(b[0], b[1]), -2);
            Check.promise(24, "-2 likewise, no such what");
            for (int what = -1; what < 4; what++) {
                Check.due("best" + at + ", what " + what, x.best(b[0], b[1], what), -2);
            }
        }
    }

    // ---- promises 23 and 24 ----

    private static void ways() {
        Check.promise(23, "Of all SENDINGS of an ORDER by which it HOLDS where it is to come at an HOUR: how many there are");
        SlowOrder x = Check.told(SMALL + says(0, 5, 0, 1, 2));
        // by none, by 0 and by 1, each HOUR from 0 on
        int[] due = {0, 3, 6, 9, 12};
        for (int hour = 0; hour < 5; hour++) {
            Check.due("ways(0, " + hour + ")", x.ways(0, hour), due[hour]);
        }
        x = Check.told(SMALL + "rider pace 1 rests 9;rider pace 4 rests 0;rider pace 5 rests 0;" + says(3, 5, 0, 1, 2));
        Check.due("two riders like one another, one just in time, one never", x.ways(0, 4), 12 + 12 + 3);
        bestIs(x, 0, 4, 0, 0, -1);
        x = Check.told("realm towns 3 hours 5;rider pace 1 rests 0;" + says(0, 5, 0, 1, 2));
        Check.due("no way", x.ways(0, 4), 0);
        bestIs(x, 0, 4, -1, -1, -1);
        x = Check.told(ROUND + "rider pace 1 rests 0;" + says(0, 5, 0, 1, 0) + says(0, 6, 0, 1, 2));
        Check.due("ahead of the other", x.ways(0, 2), 3 * 2);
        Check.due("of one HOUR the other holds", x.ways(0, 3), 0);
        Check.due("one behind it", x.ways(0, 4), 3 + 2);
        Check.due("two behind it", x.ways(0, 5), 6 + 4);
        // the other of one HOUR with 0, which comes at 1: at 1, 2 and 3, and at 3 by 2 and 3
        Check.due("its number is greater", x.ways(1, 3), 9 + 2);
        x.seal(1);
        Check.due("sealed", x.ways(0, 19), 3);
        x.seal(0);
        Check.due("all sealed", x.ways(0, 19), 0);
        Check.due("in thought alone", x.order(0, 6), 0);
    }

    private static void waysOfMost() {
        Check.promise(23, "Of all SENDINGS of an ORDER");
        // eight towns in a row, six riders like one another, ten orders of which the last is asked for
        StringBuilder s = new StringBuilder("realm towns 8 hours 99;");
        for (int t = 0; t < 7; t++) {
            s.append("road ").append(t).append(" to ").append(t + 1).append(" hours 1;");
        }
        s.append("rider pace 1 rests 0;".repeat(6)).append(says(5, 4, 0, 1, 0).repeat(9)).append(says(5, 5, 0, 1, 0));
        SlowOrder x = Check.told(s.toString());
        // by none, 0 and 1 it takes 1 hour, by t it takes t, and t - 1 back
        int due = 3 * 98;
        for (int t = 2; t < 8; t++) {
            due += 99 - (2 * t - 1);
        }
        Check.due("all riders", x.ways(9, 98), 6 * due);
        bestIs(x, 9, 98, 0, 0, -1);
        Check.due("of one HOUR with the others, which come at 1", x.ways(0, 1), 0);
        Check.due("one behind them", x.ways(0, 2), 6 * 3);
        x.sends(9, 50);
        delayIs(x, 1, 9, 98, -1, -1);
        delayIs(x, 1, 4, 50, 0, -1);
        delayIs(x, 1, 4, 98, 48, 9);
        Check.due("an eleventh, hers", x.queen(7, 1, 0, 9, 98), 92);
    }

    private static void allElseAsTold() {
        Check.term("IV", "as another RIDER, another HOUR, by way of one TOWN (or none) has it, all else as told");
        // its own vias are told, but by way of one TOWN or none it goes another way
        SlowOrder x = Check.told(ROUND + "rider pace 1 rests 0;" + says(0, 5, 0, 1, 9).replace(";", " via 2 3 2;"));
        Check.due("straight", x.ways(0, 1), 3);
        bestIs(x, 0, 1, 0, 0, -1);
        Check.due("its own way takes seven", x.latest(0, 6), -1);
        Check.due("its own way takes seven", x.latest(0, 7), 0);
        // by way of an island there is none
        x = Check.told(LAND + says(1, 5, 0, 1, 3));
        Check.due("three of four towns, and the slow one thrice", x.ways(0, 4), 3 * 3 + 3);
    }

    private static void bestInOrder() {
        Check.promise(24, "The first of them (by RIDER, HOUR, then way: none ahead of TOWNS)");
        String two = says(0, 5, 0, 1, 0) + says(0, 6, 0, 1, 2);
        SlowOrder x = Check.told(ROUND + "rider pace 1 rests 0;" + two);
        // it must come at 4: sent at 1 by 2 or 3, or at 3 straight
        bestIs(x, 0, 4, 0, 1, 2);
        // at 4 or 5: sent at 1 by 2 still
        bestIs(x, 0, 5, 0, 1, 2);
        bestIs(x, 0, 2, 0, 0, -1);
        Check.promise(24, "by RIDER");
        x = Check.told(ROUND + "rider pace 2 rests 0;rider pace 1 rests 0;" + two.replace("rider 0", "rider 1"));
        bestIs(x, 0, 4, 0, 2, -1);
        x = Check.told(ROUND + "rider pace 9 rests 0;rider pace 1 rests 0;" + two.replace("rider 0", "rider 1"));
        bestIs(x, 0, 4, 1, 1, 2);
        Check.promise(24, "none ahead of TOWNS");
        bestIs(x, 0, 2, 1, 0, -1);
        Check.promise(24, "NONE: there is none");
        bestIs(x, 0, 3, -1, -1, -1);
        bestIs(x, 0, 0, -1, -1, -1);
        // by the last TOWN alone: a flood holds up the one by 2
        x = Check.told(ROUND + "flood 0 to 2 from 0 to 19;rider pace 1 rests 0;" + two);
        bestIs(x, 0, 4, 0, 1, 3);
    }

    private static void noSuchWhat() {
        Check.promise(24, "-2 likewise, no such what");
        SlowOrder x = Check.told(SMALL + says(0, 5, 0, 1, 2));
        int[] bad = {3, 4, -1, MOST, LEAST};
        for (int what : bad) {
            Check.due("best(0, 4, " + what + ")", x.best(0, 4, what), -2);
            Check.due("none holds, best(0, 0, " + what + ")", x.best(0, 0, what), -2);
        }
    }

    // ---- promise 25 ----

    private static void delayIs(SlowOrder x, int town, int says, int hour, int late, int order) {
        String at = "delay(" + town + ", 0, " + says + ", " + hour + ", ";
        Check.due(at + "0)", x.delay(town, 0, says, hour, 0), late);
        Check.due(at + "1)", x.delay(town, 0, says, hour, 1), order);
    }

    private static void delayNone() {
        Check.promise(25, "NONE: of none, it is so");
        SlowOrder x = Check.told(LAND + says(1, 5, 0, 2, 0) + says(1, 6, 0, 2, 3));
        delayIs(x, 2, 5, 5, 0, -1);
        delayIs(x, 2, 6, 8, 0, -1);
        delayIs(x, 2, -1, 4, 0, -1);
        delayIs(x, 1, -1, 29, 0, -1);
        x = Check.told(LAND);
        delayIs(x, 0, -1, 0, 0, -1);
        Check.promise(25, "NONE: no one does it");
        delayIs(x, 0, 0, 29, -1, -1);
        x = Check.told(LAND + says(1, 5, 0, 2, 10) + says(1, 6, 0, 2, 20));
        // nobody can be held up into coming sooner, and two would have to be
        delayIs(x, 2, 5, 14, -1, -1);
        delayIs(x, 2, -1, 25, -1, -1);
        delayIs(x, 2, 9, 29, -1, -1);
    }

    private static void delayFewest() {
        Check.promise(25, "the fewest hours (0 .. hours) that one RIDER is held up");
        // in 2: 0 comes at 5, 1 at 8, 2 at 10
        SlowOrder x = Check.told(LAND + says(1, 5, 0, 2, 0) + says(1, 6, 0, 2, 3) + says(1, 7, 1, 2, 7));
        delayIs(x, 2, 6, 29, 3, 1);
        delayIs(x, 2, 5, 29, 6, 0);
        delayIs(x, 2, 6, 10, 1, 2);
        delayIs(x, 2, 5, 8, 1, 1);
        delayIs(x, 2, 5, 9, 2, 1);
        delayIs(x, 2, -1, 5, 1, 0);
        delayIs(x, 2, -1, 7, 3, 0);
        Check.promise(25, "1: of which ORDER (the first of several");
        x = Check.told(LAND + says(1, 5, 0, 2, 0) + says(1, 5, 0, 2, 0) + says(1, 6, 0, 2, 1));
        delayIs(x, 2, 5, 29, 2, 0);
        // 1 needs one hour less than 0
        x = Check.told(LAND + says(1, 5, 0, 2, 0) + says(1, 5, 0, 2, 1) + says(1, 6, 0, 2, 1));
        delayIs(x, 2, 5, 29, 1, 1);
        delayIs(x, 2, 6, 29, 0, -1);
        // 0 is held up behind the HOUR, or so is what undoes it
        x = Check.told(LAND + says(1, 5, 0, 2, 0) + undoes(1, 0, 0, 2, 1));
        delayIs(x, 2, 5, 6, 1, 1);
        delayIs(x, 2, 5, 29, 24, 1);
        x.seal(20);
        delayIs(x, 2, 5, 29, 15, 1);
    }

    private static void delayNever() {
        Check.promise(25, "sent so much later, beyond the last HOUR too: then never");
        SlowOrder x = Check.told(SMALL + says(0, 5, 0, 1, 3));
        delayIs(x, 1, -1, 4, 1, 0);
        x = Check.told(SMALL + says(0, 5, 0, 1, 0));
        delayIs(x, 1, -1, 4, 4, 0);
        delayIs(x, 1, -1, 3, 3, 0);
        delayIs(x, 1, -1, 1, 1, 0);
        // floods hold up for long: 0 comes at 28 if sent at 0 .. 25, and never if later
        x = Check.told("realm towns 2 hours 30;road 0 to 1 hours 2;flood 0 to 1 from 0 to 25;rider pace 1 rests 0;"
            + says(0, 5, 0, 1, 0));
        delayIs(x, 1, -1, 28, 27, 0);
        delayIs(x, 1, -1, 29, 28, 0);
        x = Check.told("realm towns 2 hours 99;road 0 to 1 hours 1;rider pace 1 rests 0;" + says(0, 5, 0, 1, 0)
            + says(0, 6, 0, 1, 97));
        delayIs(x, 1, 5, 98, 1, 1);
        delayIs(x, 1, -1, 97, 97, 0);
        Check.due("in thought alone", x.order(0, 6), 0);
        Check.due("in thought alone", x.comes(0), 1);
    }

    private static void noSuchDelay() {
        Check.promise(25, "-2: there are none such");
        SlowOrder x = Check.told(LAND + says(1, 5, 0, 2, 0));
        int[][] bad = {{4, 0, 0, 0, 0}, {-1, 0, 0, 0, 0}, {MOST, 0, 0, 0, 0}, {LEAST, 0, 0, 0, 0}, {0, 3, 0, 0, 0},
            {0, -1, 0, 0, 0}, {0, MOST, 0, 0, 0}, {0, LEAST, 0, 0, 0}, {0, 0, 10, 0, 0}, {0, 0, -2, 0, 0},
            {0, 0, MOST, 0, 0}, {0, 0, LEAST, 0, 0}, {0, 0, 0, 30, 0}, {0, 0, 0, -1, 0}, {0, 0, 0, MOST, 0},
            {0, 0, 0, LEAST, 0}, {0, 0, -1, 0, 2}, {0, 0, -1, 0, -1}, {0, 0, 0, 0, MOST}, {0, 0, 0, 0, LEAST},
            {2, 0, 5, 5, 2}, {2, 0, 5, 5, -1}};
        for (int[] b : bad) {
            Check.due("delay(" + b[0] + ", " + b[1] + ", " + b[2] + ", " + b[3] + ", " + b[4] + ")",
                x.delay(b[0], b[1], b[2], b[3], b[4]), -2);
        }
        Check.due("the least", x.delay(0, 0, -1, 0, 0), 0);
        Check.due("the greatest", x.delay(3, 2, 9, 29, 1), -1);
    }

    // ---- promise 26 ----

    private static void queen() {
        Check.promise(26, "the latest HOUR at which she (pace 1, no rests, QUICKEST way from a TOWN) can send something");
        SlowOrder x = Check.told(LAND);
        Check.due("by the last HOUR", x.queen(0, 2, 0, 7, 29), 24);
        Check.due("just", x.queen(0, 2, 0, 7, 5), 0);
        Check.due("and back", x.queen(2, 0, 0, 7, 5), 0);
        Check.promise(26, "NONE: at none");
        Check.due("one HOUR too few", x.queen(0, 2, 0, 7, 4), -1);
        Check.due("the first HOUR", x.queen(0, 2, 0, 7, 0), -1);
        Check.due("no way", x.queen(0, 3, 0, 7, 29), -1);
        Check.due("no way", x.queen(3, 0, 0, 7, 29), -1);
        x = Check.told("realm towns 2 hours 5;road 0 to 1 hours 1;");
        Check.due("without riders", x.queen(0, 1, 0, 7, 4), 3);
        Check.due("without riders", x.queen(1, 0, 2, 0, 1), 0);
        x = Check.told("realm towns 2 hours 99;road 0 to 1 hours 20;");
        Check.due("longest", x.queen(0, 1, 0, 9, 98), 78);
    }

    private static void queenAsLast() {
        Check.promise(26, "so that hers HOLDS in another TOWN about a THING at an HOUR, as an ORDER told last");
        SlowOrder x = Check.told(LAND + says(1, 5, 0, 2, 3));
        Check.due("ahead of the other", x.queen(0, 2, 0, 7, 7), 2);
        Check.due("of one HOUR hers", x.queen(0, 2, 0, 7, 8), 3);
        Check.due("another's that says the same is not hers", x.queen(0, 2, 0, 5, 8), 3);
        Check.due("about another THING", x.queen(0, 2, 2, 7, 8), 3);
        x = Check.told(LAND + says(1, 5, 0, 2, 3).repeat(10));
        Check.due("an eleventh", x.queen(0, 2, 0, 7, 8), 3);
        Check.due("she is not told", x.count(5), 10);
        Check.due("hers does not stay", x.whose(2, 0, 29), 9);
        Check.due("nor is it one of them", x.order(10, 0), -2);
        // the other sets out on the second road ahead of a flood and comes at 15; she comes by 12 or not at all
        x = Check.told(LAND + "flood 1 to 2 from 10 to 29;" + says(0, 5, 1, 2, 9));
        Check.due("ahead of the other", x.queen(0, 2, 0, 7, 14), 7);
        Check.due("behind the other she can't come", x.queen(0, 2, 0, 7, 15), -1);
        Check.due("about another THING", x.queen(0, 2, 1, 7, 29), 7);
    }

    private static void queenLikeRiders() {
        Check.promise(26, "QUICKEST way from a TOWN");
        SlowOrder x = Check.told(LAND + "flood 1 to 2 from 5 to 9;");
        Check.due("she waits", x.queen(0, 2, 0, 7, 13), 8);
        Check.due("ahead of the flood", x.queen(0, 2, 0, 7, 12), 2);
        x = Check.told(LAND + "flood 0 to 1 from 0 to 29;");
        Check.due("she waits, though there is another way", x.queen(0, 2, 0, 7, 29), -1);
        x = Check.told(LAND + "seal 9;");
        Check.due("no later than the seal", x.queen(0, 2, 0, 7, 29), 4);
        x.seal(5);
        Check.due("just", x.queen(0, 2, 0, 7, 29), 0);
        x.seal(4);
        Check.due("sealed", x.queen(0, 2, 0, 7, 29), -1);
    }

    private static void noSuchQueen() {
        Check.promise(26, "-2: there are none such, one TOWN");
        SlowOrder x = Check.told(LAND);
        int[][] bad = {{4, 0, 0, 0, 0}, {-1, 0, 0, 0, 0}, {MOST, 0, 0, 0, 0}, {LEAST, 0, 0, 0, 0}, {0, 4, 0, 0, 0},
            {0, -1, 0, 0, 0}, {0, MOST, 0, 0, 0}, {0, LEAST, 0, 0, 0}, {0, 1, 3, 0, 0}, {0, 1, -1, 0, 0},
            {0, 1, MOST, 0, 0}, {0, 1, LEAST, 0, 0}, {0, 1, 0, 10, 0}, {0, 1, 0, -1, 0}, {0, 1, 0, MOST, 0},
            {0, 1, 0, LEAST, 0}, {0, 1, 0, 0, 30}, {0, 1, 0, 0, -1}, {0, 1, 0, 0, MOST}, {0, 1, 0, 0, LEAST},
            {0, 0, 0, 0, 29}, {1, 1, 0, 0, 29}, {3, 3, 0, 0, 29}, {4, 4, 0, 0, 29}};
        for (int[] b : bad) {
            Check.due("queen(" + b[0] + ", " + b[1] + ", " + b[2] + ", " + b[3] + ", " + b[4] + ")",
                x.queen(b[0], b[1], b[2], b[3], b[4]), -2);
        }
        Check.due("the greatest", x.queen(1, 2, 2, 9, 29), 26);
        Check.due("the least", x.queen(1, 0, 0, 0, 29), 27);
    }
}
