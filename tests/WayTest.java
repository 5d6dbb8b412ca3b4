/** Promises 6 to 11: hours, way, order, comes, rider, passes. */
public final class WayTest {
    private static final String ROADS = "realm towns 7 hours 30;road 0 to 1 hours 2;road 1 to 2 hours 3;"
        + "road 0 to 3 hours 3;road 3 to 2 hours 2;road 4 to 0 hours 1;road 4 to 2 hours 6;";

    public static void main(String[] args) {
        hours();
        way();
        order();
        comes();
        rider();
        passes();
        floods();
        vias();
        noWay();
        Check.finish();
    }

    private static void hours() {
        SlowOrder x = Check.told(ROADS);
        Check.due("to itself", x.hours(3, 3), 0);
        Check.due("one road", x.hours(1, 0), 2);
        Check.due("two roads", x.hours(0, 2), 5);
        Check.due("back", x.hours(2, 0), 5);
        Check.due("three roads", x.hours(4, 2), 6);
        Check.due("none", x.hours(0, 5), -1);
        Check.due("an island to itself", x.hours(5, 5), 0);
        Check.due("no such town", x.hours(0, 7), -2);
        Check.due("no such town", x.hours(-1, 0), -2);
        Check.due("no such town", x.hours(7, 7), -2);
    }

    private static void wayIs(SlowOrder x, int from, int to, int... towns) {
        for (int i = 0; i < towns.length; i++) {
            Check.due("way(" + from + ", " + to + ", " + i + ")", x.way(from, to, i), towns[i]);
        }
        Check.due("behind the way", x.way(from, to, towns.length), -1);
        Check.due("ahead of the way", x.way(from, to, -1), -1);
    }

    private static void way() {
        SlowOrder x = Check.told(ROADS);
        wayIs(x, 0, 2, 0, 1, 2);
        wayIs(x, 2, 0, 2, 1, 0);
        wayIs(x, 1, 3, 1, 0, 3);
        wayIs(x, 4, 2, 4, 0, 1, 2);
        wayIs(x, 2, 4, 2, 1, 0, 4);
        wayIs(x, 6, 6, 6);
        wayIs(x, 0, 6);
        Check.due("far behind", x.way(0, 2, Integer.MAX_VALUE), -1);
        Check.due("no such town", x.way(0, 7, 0), -2);
        Check.due("no such town", x.way(-1, 0, 0), -2);
        x = Check.told("realm towns 3 hours 9;road 0 to 2 hours 4;road 0 to 1 hours 2;road 1 to 2 hours 2;");
        wayIs(x, 0, 2, 0, 1, 2);
        x = Check.told("realm towns 3 hours 9;road 0 to 1 hours 4;road 0 to 2 hours 2;road 1 to 2 hours 2;");
        wayIs(x, 0, 1, 0, 1);
    }

    private static void order() {
        SlowOrder x = Check.told(ROADS + "rider pace 1 rests 0;rider pace 2 rests 3;"
            + "order rider 1 on 2 says 7 from 4 to 2 at 5;order rider 0 on 1 undoes 0 from 3 to 0 at 29 via 1 2;");
        int[] says = {1, 2, 7, -1, 4, 2, 5};
        int[] undoes = {0, 1, -1, 0, 3, 0, 29};
        for (int what = 0; what < 7; what++) {
            Check.due("order(0, " + what + ")", x.order(0, what), says[what]);
            Check.due("order(1, " + what + ")", x.order(1, what), undoes[what]);
        }
        Check.due("no such what", x.order(0, 7), -2);
        Check.due("no such what", x.order(0, -1), -2);
        Check.due("no such order", x.order(2, 0), -2);
        Check.due("no such order", x.order(-1, 0), -2);
        x.sends(0, 9);
        Check.due("its hour now", x.order(0, 6), 9);
    }

    private static void comes() {
        SlowOrder x = Check.told(ROADS + "rider pace 2 rests 3;order rider 0 on 0 says 7 from 4 to 2 at 5;"
            + "order rider 0 on 0 says 7 from 4 to 2 at 11;order rider 0 on 0 says 7 from 4 to 2 at 12;"
            + "order rider 0 on 0 says 7 from 4 to 6 at 0;");
        Check.due("comes", x.comes(0), 23);
        Check.due("comes in the last hour", x.comes(1), 29);
        Check.due("beyond the last hour: never", x.comes(2), -1);
        Check.due("no way: never", x.comes(3), -1);
        Check.due("no such order", x.comes(4), -2);
        Check.due("no such order", x.comes(-1), -2);
    }

    private static void rider() {
        SlowOrder x = Check.told(ROADS + "rider pace 2 rests 3;order rider 0 on 0 says 7 from 4 to 2 at 5;"
            + "order rider 0 on 0 says 7 from 4 to 2 at 28;");
        int[] where = {-1, -1, -1, -1, -1, 10, 10, 0, 0, 0, 11, 11, 11, 11, 1, 1, 1, 12, 12, 12, 12, 12, 12, 2,
            -1, -1, -1, -1, -1, -1};
        for (int hour = 0; hour < 30; hour++) {
            Check.due("rider(0, " + hour + ")", x.rider(0, hour), where[hour]);
        }
        Check.due("rider(1, 27)", x.rider(1, 27), -1);
        Check.due("rider(1, 29)", x.rider(1, 29), 10);
        Check.due("no such hour", x.rider(0, 30), -2);
        Check.due("no such hour", x.rider(0, -1), -2);
        Check.due("no such order", x.rider(2, 0), -2);
        // without rests he sets out in the hour in which he comes
        x = Check.told(ROADS + "rider pace 1 rests 0;order rider 0 on 0 says 7 from 0 to 2 at 1;");
        int[] swift = {-1, 11, 11, 12, 12, 12, 2, -1};
        for (int hour = 0; hour < swift.length; hour++) {
            Check.due("swift rider(0, " + hour + ")", x.rider(0, hour), swift[hour]);
        }
    }

    private static void passes() {
        SlowOrder x = Check.told(ROADS + "rider pace 2 rests 3;order rider 0 on 0 says 7 from 4 to 2 at 5;"
            + "order rider 0 on 0 says 7 from 4 to 2 at 28;");
        int[] first = {5, 7, 14, 23};
        int[] second = {28, 30, 37, 46};
        for (int i = 0; i < 4; i++) {
            Check.due("passes(0, " + i + ")", x.passes(0, i), first[i]);
            Check.due("beyond the last hour too: passes(1, " + i + ")", x.passes(1, i), second[i]);
        }
        Check.due("behind his way", x.passes(0, 4), -1);
        Check.due("ahead of his way", x.passes(0, -1), -1);
        Check.due("no such order", x.passes(2, 0), -2);
        Check.due("no such order", x.passes(-1, 0), -2);
    }

    private static void floods() {
        String told = ROADS + "flood 1 to 0 from 9 to 11;flood 0 to 1 from 12 to 12;flood 1 to 2 from 18 to 20;"
            + "rider pace 2 rests 3;order rider 0 on 0 says 7 from 4 to 2 at 5;";
        SlowOrder x = Check.told(told);
        // rests in town 0 till 10, waits till 13; rests in town 1 till 20, waits till 21
        Check.due("waits", x.passes(0, 2), 17);
        Check.due("waits again", x.comes(0), 27);
        Check.due("waits in the town", x.rider(0, 12), 0);
        Check.due("sets out", x.rider(0, 13), 11);
        Check.due("waits in the town", x.rider(0, 20), 1);
        Check.due("sets out", x.rider(0, 21), 12);
        // a flood while he is on the road stops nobody
        x = Check.told(ROADS + "flood 0 to 1 from 1 to 9;rider pace 2 rests 3;"
            + "order rider 0 on 0 says 7 from 0 to 1 at 0;order rider 0 on 0 says 7 from 1 to 0 at 1;");
        Check.due("whatever comes", x.comes(0), 4);
        Check.due("waits where he is sent from", x.comes(1), 14);
        Check.due("there he is", x.rider(1, 1), 1);
        Check.due("still", x.rider(1, 9), 1);
        Check.due("not any more", x.rider(1, 10), 10);
    }

    private static void vias() {
        SlowOrder x = Check.told(ROADS + "rider pace 1 rests 1;order rider 0 on 0 says 7 from 0 to 1 at 0 via 0 3 3;"
            + "order rider 0 on 0 says 7 from 0 to 1 at 0 via 1;order rider 0 on 0 says 7 from 0 to 1 at 0 via 1 0 1;");
        // 0 3, and back by 0 to 1: as near as by 2
        int[] round = {0, 3, 7, 10};
        for (int i = 0; i < 4; i++) {
            Check.due("round passes(0, " + i + ")", x.passes(0, i), round[i]);
        }
        Check.due("round", x.passes(0, 4), -1);
        Check.due("rests in a town of via", x.rider(0, 3), 3);
        Check.due("one where he is already but once", x.comes(1), 2);
        int[] shuttle = {0, 2, 5, 8};
        for (int i = 0; i < 4; i++) {
            Check.due("shuttle passes(2, " + i + ")", x.passes(2, i), shuttle[i]);
        }
        // four quickest ways of seven roads each
        StringBuilder s = new StringBuilder("realm towns 8 hours 99;");
        for (int t = 0; t < 7; t++) {
            s.append("road ").append(t).append(" to ").append(t + 1).append(" hours 1;");
        }
        x = Check.told(s + "rider pace 1 rests 0;order rider 0 on 0 says 7 from 7 to 0 at 0 via 0 7 0;"
            + "order rider 0 on 0 says 7 from 7 to 0 at 0 via 0 7;");
        Check.due("longest way has no end", x.comes(0), 21);
        x = Check.told(s + "rider pace 1 rests 0;order rider 0 on 0 says 7 from 7 to 1 at 0 via 0 7 0;");
        Check.due("longest", x.comes(0), 22);
        Check.due("its last town", x.passes(0, 22), 22);
        Check.due("behind it", x.passes(0, 23), -1);
    }

    private static void noWay() {
        SlowOrder x = Check.told(ROADS + "rider pace 1 rests 0;order rider 0 on 0 says 7 from 0 to 6 at 0;"
            + "order rider 0 on 0 says 7 from 0 to 1 at 0 via 5;");
        for (int order = 0; order < 2; order++) {
            Check.due("never", x.comes(order), -1);
            Check.due("nowhere", x.rider(order, 0), -1);
            Check.due("passes nothing", x.passes(order, 0), -1);
        }
    }
}
