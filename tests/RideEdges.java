import java.util.Arrays;

/** Promises 6 to 11 and Term II: the sentences that name a boundary case. */
final class RideEdges {
    // 0 to 4 is four hours by 1, by 2 and 3, and straight; 5 is an island
    private static final String LAND = "realm towns 6 hours 40;road 0 to 4 hours 4;road 0 to 1 hours 2;"
        + "road 1 to 4 hours 2;road 0 to 2 hours 1;road 2 to 3 hours 1;road 3 to 4 hours 2;";
    // in a row
    private static final String ROW = "realm towns 3 hours 30;road 0 to 1 hours 2;road 1 to 2 hours 3;";
    private static final int MOST = Integer.MAX_VALUE;
    private static final int LEAST = Integer.MIN_VALUE;

    private RideEdges() {
    }

    static void all() {
        hours();
        noSuchTowns();
        way();
        leastRow();
        order();
        comes();
        comesNever();
        rider();
        riderOutOfTime();
        riderWaits();
        passes();
        passesNone();
        waits();
        whateverComes();
        rests();
        pace();
        vias();
        viaWithoutWay();
        longest();
    }

    private static String order(int from, int to, int hour, String via) {
        return "order rider 0 on 0 says 5 from " + from + " to " + to + " at " + hour
            + (via.isEmpty() ? ";" : " via " + via + ";");
    }

    private static String rider(int pace, int rests) {
        return "rider pace " + pace + " rests " + rests + ";";
    }

    private static void wayIs(SlowOrder x, int from, int to, int... towns) {
        for (int i = 0; i < towns.length; i++) {
            Check.due("way(" + from + ", " + to + ", " + i + ")", x.way(from, to, i), towns[i]);
        }
        Check.due("way(" + from + ", " + to + ") behind its end", x.way(from, to, towns.length), -1);
    }

    private static void passesBy(SlowOrder x, int order, int... hours) {
        for (int i = 0; i < hours.length; i++) {
            Check.due("passes(" + order + ", " + i + ")", x.passes(order, i), hours[i]);
        }
        Check.due("passes(" + order + ") behind its end", x.passes(order, hours.length), -1);
    }

    // ---- promises 6 and 7 ----

    private static void hours() {
        SlowOrder x = Check.told(LAND);
        Check.promise(6, "0 to itself");
        for (int t = 0; t < 6; t++) {
            Check.due("hours(" + t + ", " + t + ")", x.hours(t, t), 0);
        }
        Check.promise(6, "NONE: there is none");
        for (int t = 0; t < 5; t++) {
            Check.due("hours(" + t + ", 5)", x.hours(t, 5), -1);
            Check.due("hours(5, " + t + ")", x.hours(5, t), -1);
        }
        Check.promise(6, "Hours of the QUICKEST way");
        int[][] far = {{0, 4, 4}, {0, 3, 2}, {1, 3, 4}, {1, 2, 3}, {2, 4, 3}, {0, 2, 1}};
        for (int[] f : far) {
            Check.due("hours(" + f[0] + ", " + f[1] + ")", x.hours(f[0], f[1]), f[2]);
            Check.due("hours(" + f[1] + ", " + f[0] + ")", x.hours(f[1], f[0]), f[2]);
        }
        x = Check.told("realm towns 8 hours 5;road 0 to 1 hours 20;road 1 to 2 hours 20;road 2 to 3 hours 20;"
            + "road 3 to 4 hours 20;road 4 to 5 hours 20;road 5 to 6 hours 20;road 6 to 7 hours 20;");
        Check.due("the farthest, far beyond the last HOUR", x.hours(0, 7), 140);
        Check.due("back", x.hours(7, 0), 140);
        wayIs(x, 7, 0, 7, 6, 5, 4, 3, 2, 1, 0);
    }

    private static void noSuchTowns() {
        int[] bad = {6, 7, 8, -1, MOST, LEAST};
        SlowOrder x = Check.told(LAND);
        for (int t : bad) {
            Check.promise(6, "-2: there are none such");
            Check.due("hours(" + t + ", 0)", x.hours(t, 0), -2);
            Check.due("hours(0, " + t + ")", x.hours(0, t), -2);
            Check.due("hours(" + t + ", " + t + ")", x.hours(t, t), -2);
            Check.promise(7, "-2 likewise");
            Check.due("way(" + t + ", 0, 0)", x.way(t, 0, 0), -2);
            Check.due("way(0, " + t + ", 0)", x.way(0, t, 0), -2);
            Check.due("way(" + t + ", " + t + ", 0)", x.way(t, t, 0), -2);
            Check.due("way(0, " + t + ", -1)", x.way(0, t, -1), -2);
        }
        x = Check.told("realm towns 2 hours 5;");
        Check.due("the last town", x.way(1, 1, 0), 1);
        Check.due("one more", x.way(2, 2, 0), -2);
        x = Check.told("realm towns 8 hours 5;");
        Check.due("the last town", x.hours(7, 7), 0);
        Check.due("one more", x.hours(8, 8), -2);
    }

    private static void way() {
        SlowOrder x = Check.told(LAND);
        Check.promise(7, "The i-th TOWN of it (0: from)");
        for (int t = 0; t < 6; t++) {
            wayIs(x, t, t, t);
        }
        wayIs(x, 0, 2, 0, 2);
        wayIs(x, 2, 4, 2, 3, 4);
        Check.promise(7, "NONE: there is none such");
        int[] beyond = {-1, 2, 3, 8, 28, 29, 30, MOST, LEAST};
        for (int i : beyond) {
            Check.due("way(0, 2, " + i + ")", x.way(0, 2, i), -1);
            Check.due("way(0, 0, " + i + ")", x.way(0, 0, i), -1);
            Check.due("way(0, 5, " + i + ")", x.way(0, 5, i), -1);
        }
        Check.due("no way has not even a first town", x.way(0, 5, 0), -1);
        Check.due("no way has not even a first town", x.way(5, 0, 0), -1);
    }

    private static void leastRow() {
        Check.term("II", "of several the least row of TOWNS");
        SlowOrder x = Check.told(LAND);
        wayIs(x, 0, 4, 0, 1, 4);
        wayIs(x, 4, 0, 4, 0);
        wayIs(x, 1, 3, 1, 0, 2, 3);
        wayIs(x, 3, 1, 3, 2, 0, 1);
        Check.term("II", "the fewest hours of its ROADS together");
        x = Check.told(LAND.replace("road 0 to 4 hours 4", "road 0 to 4 hours 3"));
        wayIs(x, 0, 4, 0, 4);
        x = Check.told(LAND.replace("road 0 to 4 hours 4", "road 0 to 4 hours 5").replace("3 to 4 hours 2", "3 to 4 hours 1"));
        wayIs(x, 0, 4, 0, 2, 3, 4);
        wayIs(x, 4, 0, 4, 3, 2, 0);
        // of a row that goes by 1, 2 and one that goes by 1, 3 the first differs late
        x = Check.told("realm towns 5 hours 9;road 0 to 1 hours 1;road 1 to 3 hours 1;road 3 to 4 hours 1;"
            + "road 1 to 2 hours 1;road 2 to 4 hours 1;");
        wayIs(x, 0, 4, 0, 1, 2, 4);
        wayIs(x, 4, 0, 4, 2, 1, 0);
    }

    // ---- promise 8 ----

    private static void order() {
        SlowOrder x = Check.told(ROW + rider(1, 0) + rider(2, 3) + "order rider 1 on 2 says 0 from 2 to 0 at 29;"
            + "order rider 0 on 1 undoes 0 from 0 to 1 at 0;order rider 0 on 0 says 9 from 1 to 2 at 7 via 0 1;");
        int[][] due = {{1, 2, 0, -1, 2, 0, 29}, {0, 1, -1, 0, 0, 1, 0}, {0, 0, 9, -1, 1, 2, 7}};
        Check.promise(8, "what 0: RIDER, 1: THING, 2: what it says (NONE: it undoes), 3: what it undoes (NONE), "
            + "4: from, 5: to, 6: HOUR");
        for (int o = 0; o < due.length; o++) {
            for (int what = 0; what < 7; what++) {
                Check.due("order(" + o + ", " + what + ")", x.order(o, what), due[o][what]);
            }
        }
        Check.promise(8, "-2: there are none such");
        int[] badWhat = {7, 8, -1, MOST, LEAST};
        for (int what : badWhat) {
            Check.due("order(0, " + what + ")", x.order(0, what), -2);
        }
        int[] badOrder = {3, 9, 10, -1, MOST, LEAST};
        for (int o : badOrder) {
            Check.due("order(" + o + ", 0)", x.order(o, 0), -2);
            Check.due("order(" + o + ", 7)", x.order(o, 7), -2);
        }
    }

    // ---- promise 9 ----

    private static void comes() {
        Check.promise(9, "The HOUR in which it COMES");
        SlowOrder x = Check.told(ROW + rider(1, 0) + order(0, 1, 0, "") + order(0, 1, 27, "") + order(0, 1, 28, "")
            + order(0, 1, 29, ""));
        Check.due("the soonest", x.comes(0), 2);
        Check.due("in the last HOUR", x.comes(1), 29);
        Check.promise(9, "NONE: never");
        Check.due("one behind the last HOUR", x.comes(2), -1);
        Check.due("sent in the last HOUR", x.comes(3), -1);
        Check.promise(9, "-2: there is none such");
        int[] bad = {4, 10, -1, MOST, LEAST};
        for (int o : bad) {
            Check.due("comes(" + o + ")", x.comes(o), -2);
        }
        x = Check.told("realm towns 2 hours 5;road 0 to 1 hours 1;" + rider(1, 0) + order(0, 1, 3, "") + order(0, 1, 4, ""));
        Check.due("in the last of the fewest HOURS", x.comes(0), 4);
        Check.due("one behind it", x.comes(1), -1);
        x = Check.told("realm towns 2 hours 99;road 0 to 1 hours 1;" + rider(1, 0) + order(0, 1, 97, "") + order(0, 1, 98, ""));
        Check.due("in the last of the most HOURS", x.comes(0), 98);
        Check.due("one behind it", x.comes(1), -1);
    }

    private static void comesNever() {
        Check.term("II", "He COMES in an HOUR (beyond the last one: never), or never, if there is no way");
        SlowOrder x = Check.told(LAND + rider(1, 0) + order(0, 5, 0, "") + order(5, 0, 0, "") + order(0, 1, 0, "5")
            + order(0, 1, 0, "1 5 1") + order(0, 1, 0, "1 1 1"));
        for (int o = 0; o < 4; o++) {
            Check.due("without a way comes(" + o + ")", x.comes(o), -1);
            Check.due("nor at another HOUR", x.latest(o, 39), -1);
        }
        Check.due("with one", x.comes(4), 2);
    }

    // ---- promise 10 ----

    private static void rider() {
        SlowOrder x = Check.told(ROW + rider(1, 2) + order(0, 2, 4, ""));
        // 4 in 0 and out, 6 in 1, 8 out, 11 in 2
        int[] where = {-1, -1, -1, -1, 11, 11, 1, 1, 12, 12, 12, 2, -1, -1};
        Check.promise(10, "a TOWN (from the HOUR of his coming on; from that of his setting out on not any more, "
            + "be it the same), 10 and more: on his way to a TOWN (10 and that)");
        for (int hour = 0; hour < where.length; hour++) {
            Check.due("rider(0, " + hour + ")", x.rider(0, hour), where[hour]);
        }
        // no rests: he comes and sets out in one HOUR
        x = Check.told(ROW + rider(1, 0) + order(0, 2, 0, "") + order(2, 0, 0, ""));
        int[] there = {11, 11, 12, 12, 12, 2, -1};
        int[] back = {11, 11, 11, 10, 10, 0, -1};
        for (int hour = 0; hour < there.length; hour++) {
            Check.due("rider(0, " + hour + ")", x.rider(0, hour), there[hour]);
            Check.due("rider(1, " + hour + ")", x.rider(1, hour), back[hour]);
        }
        x = Check.told("realm towns 8 hours 9;road 7 to 6 hours 1;" + rider(9, 0) + order(6, 7, 0, "") + order(7, 6, 0, ""));
        Check.due("to the last town", x.rider(0, 8), 17);
        Check.due("to the one ahead", x.rider(1, 0), 16);
    }

    private static void riderOutOfTime() {
        Check.promise(10, "NONE: he has not set out, or it has COME ahead, or he has no way");
        SlowOrder x = Check.told(ROW + "road 0 to 2 hours 20;" + rider(1, 0) + order(0, 1, 5, "") + order(0, 1, 29, "")
            + order(0, 1, 27, ""));
        Check.due("the HOUR ahead", x.rider(0, 4), -1);
        Check.due("his HOUR", x.rider(0, 5), 11);
        Check.due("the HOUR of his coming", x.rider(0, 7), 1);
        Check.due("the HOUR behind", x.rider(0, 8), -1);
        Check.due("the last HOUR", x.rider(0, 29), -1);
        Check.due("on his way in the last HOUR", x.rider(1, 29), 11);
        Check.due("not ahead of it", x.rider(1, 28), -1);
        Check.due("there in the last HOUR", x.rider(2, 29), 1);
        x = Check.told(LAND + rider(1, 0) + order(0, 5, 3, "") + order(0, 1, 3, "5"));
        for (int hour = 0; hour < 40; hour++) {
            Check.due("no way, hour " + hour, x.rider(0, hour), -1);
            Check.due("no way by, hour " + hour, x.rider(1, hour), -1);
        }
        Check.promise(10, "-2: there are none such");
        int[] badHour = {40, 99, 100, -1, MOST, LEAST};
        for (int hour : badHour) {
            Check.due("rider(0, " + hour + ")", x.rider(0, hour), -2);
            Check.due("rider(2, " + hour + ")", x.rider(2, hour), -2);
        }
        int[] badOrder = {2, 10, -1, MOST, LEAST};
        for (int o : badOrder) {
            Check.due("rider(" + o + ", 0)", x.rider(o, 0), -2);
        }
    }

    private static void riderWaits() {
        Check.promise(10, "a TOWN (from the HOUR of his coming on");
        SlowOrder x = Check.told(ROW + "flood 0 to 1 from 3 to 5;flood 1 to 2 from 9 to 9;" + rider(1, 1) + order(0, 2, 4, ""));
        // waits in 0 till 6, in 1 at 8, rests till 9, waits till 10, in 2 at 13
        int[] where = {-1, -1, -1, -1, 0, 0, 11, 11, 1, 1, 12, 12, 12, 2, -1};
        for (int hour = 0; hour < where.length; hour++) {
            Check.due("rider(0, " + hour + ")", x.rider(0, hour), where[hour]);
        }
        passesBy(x, 0, 4, 8, 13);
    }

    // ---- promise 11 ----

    private static void passes() {
        Check.promise(11, "0: the first, where he is sent from");
        SlowOrder x = Check.told(ROW + rider(1, 1) + order(0, 2, 0, "") + order(0, 2, 29, "") + order(0, 2, 24, ""));
        passesBy(x, 0, 0, 2, 6);
        Check.promise(11, "beyond the last HOUR too");
        passesBy(x, 1, 29, 31, 35);
        passesBy(x, 2, 24, 26, 30);
        Check.due("which is never", x.comes(2), -1);
    }

    private static void passesNone() {
        Check.promise(11, "NONE: there is none such");
        SlowOrder x = Check.told(LAND + rider(1, 0) + order(0, 1, 3, "") + order(0, 5, 3, "") + order(0, 1, 3, "1 5"));
        int[] none = {2, 3, 28, 29, 30, -1, MOST, LEAST};
        for (int i : none) {
            Check.due("passes(0, " + i + ")", x.passes(0, i), -1);
        }
        for (int i = 0; i < 3; i++) {
            Check.due("no way, passes(1, " + i + ")", x.passes(1, i), -1);
            Check.due("no way, passes(2, " + i + ")", x.passes(2, i), -1);
        }
        Check.promise(11, "-2: there is no such ORDER");
        int[] bad = {3, 10, -1, MOST, LEAST};
        for (int o : bad) {
            Check.due("passes(" + o + ", 0)", x.passes(o, 0), -2);
            Check.due("passes(" + o + ", -1)", x.passes(o, -1), -2);
        }
    }

    // ---- Term II ----

    private static void waits() {
        Check.term("II", "At each TOWN he waits as long as the ROAD that he is to take is in FLOOD in that HOUR");
        SlowOrder x = Check.told(ROW + "flood 0 to 1 from 5 to 7;" + rider(1, 0) + order(0, 1, 4, "") + order(0, 1, 5, "")
            + order(0, 1, 7, "") + order(0, 1, 8, "") + order(1, 0, 6, "") + order(1, 2, 6, ""));
        int[] comes = {6, 10, 10, 10, 10, 9};
        for (int o = 0; o < comes.length; o++) {
            Check.due("comes(" + o + ")", x.comes(o), comes[o]);
        }
        // from the first HOUR on, through the last one, one HOUR long, side by side and over one another
        x = Check.told(ROW + "flood 0 to 1 from 0 to 0;" + rider(1, 0) + order(0, 1, 0, ""));
        Check.due("the first HOUR", x.comes(0), 3);
        x = Check.told(ROW + "flood 0 to 1 from 20 to 29;" + rider(1, 0) + order(0, 1, 29, "") + order(0, 1, 19, "")
            + order(0, 1, 20, ""));
        passesBy(x, 0, 29, 32);
        passesBy(x, 1, 19, 21);
        passesBy(x, 2, 20, 32);
        x = Check.told(ROW + "flood 0 to 1 from 5 to 6;flood 0 to 1 from 7 to 9;flood 1 to 0 from 11 to 11;"
            + "flood 1 to 0 from 8 to 9;flood 0 to 1 from 3 to 3;" + rider(1, 0) + order(0, 1, 5, "") + order(0, 1, 11, "")
            + order(0, 1, 3, "") + order(0, 1, 4, ""));
        int[] again = {12, 14, 6, 6};
        for (int o = 0; o < again.length; o++) {
            Check.due("comes(" + o + ")", x.comes(o), again[o]);
        }
        // through the last of the most HOURS; another road's first HOUR is another one
        x = Check.told("realm towns 3 hours 99;road 0 to 1 hours 2;road 1 to 2 hours 3;flood 0 to 1 from 97 to 98;"
            + "flood 1 to 2 from 0 to 3;" + rider(1, 0) + order(0, 1, 98, "") + order(0, 1, 96, "") + order(1, 2, 0, "")
            + order(0, 2, 98, ""));
        passesBy(x, 0, 98, 101);
        passesBy(x, 1, 96, 98);
        passesBy(x, 2, 0, 7);
        passesBy(x, 3, 98, 101, 104);
        StringBuilder s = new StringBuilder("realm towns 8 hours 99;");
        for (int i = 0; i < 12; i++) {
            s.append("road ").append(i < 7 ? 0 : 1).append(" to ").append(i < 7 ? i + 1 : i - 5).append(" hours 1;");
        }
        x = Check.told(s + "flood 1 to 6 from 0 to 98;" + rider(1, 0) + order(1, 6, 0, "") + order(6, 1, 98, ""));
        passesBy(x, 0, 0, 100);
        passesBy(x, 1, 98, 100);
        // at the second TOWN likewise
        x = Check.told(ROW + "flood 1 to 2 from 6 to 8;" + rider(1, 0) + order(0, 2, 3, "") + order(0, 2, 4, "")
            + order(0, 2, 6, "") + order(0, 2, 7, ""));
        int[] second = {8, 12, 12, 12};
        for (int o = 0; o < second.length; o++) {
            Check.due("comes(" + o + ")", x.comes(o), second[o]);
        }
    }

    private static void whateverComes() {
        Check.term("II", "then he takes it: pace times its hours, whatever comes");
        SlowOrder x = Check.told(ROW + "flood 0 to 1 from 6 to 29;" + rider(9, 0) + order(0, 1, 5, "") + order(0, 1, 6, ""));
        Check.due("a flood behind him", x.comes(0), 23);
        passesBy(x, 1, 6, 48);
        x = Check.told(ROW + "flood 1 to 2 from 0 to 5;" + rider(1, 0) + order(0, 1, 0, ""));
        Check.due("another road's flood", x.comes(0), 2);
    }

    private static void rests() {
        Check.term("II", "in each TOWN that he comes to, but at the end, he rests");
        SlowOrder x = Check.told(ROW + rider(1, 4) + order(0, 1, 0, "") + order(0, 2, 0, "") + order(0, 2, 0, "1")
            + order(0, 2, 0, "0 1 2"));
        passesBy(x, 0, 0, 2);
        passesBy(x, 1, 0, 2, 9);
        passesBy(x, 2, 0, 2, 9);
        passesBy(x, 3, 0, 2, 9);
        x = Check.told(ROW + rider(1, 20) + order(0, 2, 0, "") + order(0, 1, 0, "1 0"));
        passesBy(x, 0, 0, 2, 25);
        passesBy(x, 1, 0, 2, 24, 46);
        // a flood while he rests holds nobody up; one at its end does
        x = Check.told(ROW + "flood 1 to 2 from 2 to 4;flood 1 to 2 from 10 to 14;" + rider(1, 3) + order(0, 2, 0, "")
            + order(0, 2, 9, ""));
        passesBy(x, 0, 0, 2, 8);
        passesBy(x, 1, 9, 11, 18);
    }

    private static void pace() {
        Check.term("II", "pace times its hours");
        for (int pace = 1; pace <= 9; pace++) {
            SlowOrder x = Check.told(ROW + rider(pace, 0) + order(0, 2, 1, ""));
            passesBy(x, 0, 1, 1 + 2 * pace, 1 + 5 * pace);
        }
        SlowOrder x = Check.told("realm towns 2 hours 99;road 0 to 1 hours 20;" + rider(1, 0) + rider(9, 20)
            + "order rider 1 on 0 says 5 from 0 to 1 at 98;order rider 0 on 0 says 5 from 0 to 1 at 78;");
        passesBy(x, 0, 98, 278);
        passesBy(x, 1, 78, 98);
        Check.due("in the last HOUR", x.comes(1), 98);
    }

    private static void vias() {
        Check.term("II", "by QUICKEST ways to each TOWN of via, in order, and then to where it is to come "
            + "(his way: all these TOWNS in a row, one where he is already but once)");
        SlowOrder x = Check.told(ROW + rider(1, 0) + order(0, 1, 0, "0") + order(0, 1, 0, "1") + order(0, 1, 0, "0 0 0")
            + order(0, 1, 0, "1 1 1") + order(0, 1, 0, "0 1 1") + order(0, 1, 0, "2") + order(0, 1, 0, "1 0")
            + order(0, 1, 0, "2 2 0") + order(0, 2, 0, "2 0 2"));
        for (int o = 0; o < 5; o++) {
            passesBy(x, o, 0, 2);
        }
        passesBy(x, 5, 0, 2, 5, 8);
        passesBy(x, 6, 0, 2, 4, 6);
        passesBy(x, 7, 0, 2, 5, 8, 10, 12);
        passesBy(x, 8, 0, 2, 5, 8, 10, 12, 15);
        // he rests where he turns, and but once
        x = Check.told(ROW + rider(1, 1) + order(0, 1, 0, "2 2 2") + order(0, 2, 0, "1 1 0"));
        passesBy(x, 0, 0, 2, 6, 10);
        passesBy(x, 1, 0, 2, 5, 8, 12);
    }

    private static void viaWithoutWay() {
        Check.term("II", "or never, if there is no way");
        SlowOrder x = Check.told(LAND + rider(1, 0) + order(0, 1, 0, "5") + order(0, 1, 0, "1 5") + order(0, 1, 0, "1 0 5")
            + order(5, 1, 0, "5") + order(0, 5, 0, "4"));
        for (int o = 0; o < 5; o++) {
            passesBy(x, o);
            Check.due("comes", x.comes(o), -1);
        }
    }

    private static void longest() {
        Check.promise(11, "The HOUR in which he comes to TOWN i of his way");
        StringBuilder s = new StringBuilder("realm towns 8 hours 99;");
        for (int t = 0; t < 7; t++) {
            s.append("road ").append(t).append(" to ").append(t + 1).append(" hours 20;");
        }
        SlowOrder x = Check.told(s + rider(9, 20) + order(7, 6, 98, "0 7 0") + order(0, 7, 98, "7 0 7"));
        int[] first = new int[28];
        first[0] = 98;
        // he rests in each but the first and the last
        for (int i = 1; i < first.length; i++) {
            first[i] = 98 + 180 * i + 20 * (i - 1);
        }
        passesBy(x, 0, first);
        passesBy(x, 1, Arrays.copyOf(first, 22));
        x = Check.told(s + rider(9, 20) + order(0, 6, 98, "7 0 7"));
        passesBy(x, 0, Arrays.copyOf(first, 23));
        x = Check.told(s + rider(9, 20) + order(1, 7, 98, "0 7 0"));
        passesBy(x, 0, Arrays.copyOf(first, 23));
    }
}
