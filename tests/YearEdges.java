/** Promises 38 and 39 and Term VI: the sentences that name a boundary case. */
final class YearEdges {
    private static final String LAND = "realm towns 3 hours 40;road 0 to 1 hours 2;road 1 to 2 hours 3;"
        + "rider pace 1 rests 0;";
    private static final int MOST = Integer.MAX_VALUE;
    private static final int LEAST = Integer.MIN_VALUE;
    private static final int LAST_SEED = 2000000000;

    private YearEdges() {
    }

    static void all() {
        drawsByHand();
        besidesThoseTold();
        belowOdds();
        roadByRoad();
        allHours();
        beyondTheLastHour();
        twelveRoads();
        never();
        noSuchYear();
        years();
        yearsOfNothing();
        lastSeeds();
        noSuchYears();
    }

    private static String says(int says, int from, int to, int hour) {
        return "order rider 0 on 0 says " + says + " from " + from + " to " + to + " at " + hour + ";";
    }

    // ---- the draws once more, for two ROADS in a row ----

    private static long drawn;

    private static int draw(int n) {
        drawn = (1103515245L * drawn + 12345L) & 0x7fffffffL;
        return (int) ((drawn >>> 16) % n);
    }

    /** When a swift rider comes from 0 over both roads to 2. */
    private static int comesIn(long seed, int odds, int hours, int sent) {
        drawn = seed;
        int hour = sent;
        int[][] floods = new int[2][];
        for (int r = 0; r < 2; r++) {
            if (draw(100) < odds) {
                floods[r] = new int[] {draw(hours), draw(12) + 1};
            }
        }
        for (int r = 0; r < 2; r++) {
            if (floods[r] != null && hour >= floods[r][0] && hour < floods[r][0] + floods[r][1]) {
                hour = floods[r][0] + floods[r][1];
            }
            hour += r == 0 ? 2 : 3;
        }
        return hour < hours ? hour : -1;
    }

    // ---- Term VI and promise 38 ----

    private static void drawsByHand() {
        // seed 0: 0 of 100, then 28 of 40 (21468), then 4 of 12 (9988): road 0 to 1 from 28 to 32; the next is 17 of 100
        Check.term("VI", "it is in FLOOD (besides those told) from a draw of hours on, for a draw of 12 HOURS and one more");
        SlowOrder x = Check.told(LAND + says(5, 0, 1, 27) + says(5, 0, 1, 28) + says(5, 0, 1, 32) + says(5, 0, 1, 33)
            + says(5, 1, 2, 30));
        int[] due = {29, 35, 35, 35, 33};
        int[] told = {29, 30, 34, 35, 33};
        for (int o = 0; o < due.length; o++) {
            Check.due("year(0, 1, " + o + ")", x.year(0, 1, o), due[o]);
            Check.due("year(0, 17, " + o + ")", x.year(0, 17, o), due[o]);
            Check.due("year(0, 0, " + o + ")", x.year(0, 0, o), told[o]);
            Check.due("comes(" + o + "), as told still", x.comes(o), told[o]);
        }
    }

    private static void besidesThoseTold() {
        Check.term("VI", "besides those told");
        String order = says(5, 0, 1, 24);
        SlowOrder x = Check.told(LAND + order + "flood 0 to 1 from 24 to 27;");
        Check.due("told and drawn, side by side", x.year(0, 1, 0), 35);
        Check.due("told alone", x.year(0, 0, 0), 30);
        Check.due("told alone", x.comes(0), 30);
        x = Check.told(LAND + order + "flood 0 to 1 from 24 to 26;");
        Check.due("told, and out ahead of the drawn one", x.year(0, 1, 0), 29);
        x = Check.told(LAND + order + "flood 0 to 1 from 24 to 39;");
        Check.due("told through the last HOUR", x.year(0, 1, 0), -1);
        // eight told are no bound
        x = Check.told(LAND + says(5, 0, 1, 28) + "flood 1 to 2 from 0 to 1;".repeat(8));
        Check.due("a ninth", x.year(0, 1, 0), 35);
    }

    private static void belowOdds() {
        Check.term("VI", "a draw of 100: below odds");
        // the first draw of these seeds, of 100
        SlowOrder x = Check.told("realm towns 2 hours 99;road 0 to 1 hours 1;rider pace 1 rests 0;" + says(5, 0, 1, 0));
        for (int seed = 0; seed < 40; seed++) {
            drawn = seed;
            int odds = draw(100);
            int from = draw(99);
            int hours = draw(12) + 1;
            x.sends(0, from);
            int dry = from < 98 ? from + 1 : -1;
            int wet = from + hours + 1 < 99 ? from + hours + 1 : -1;
            Check.due("seed " + seed + ", odds as drawn", x.year(seed, odds, 0), dry);
            Check.due("seed " + seed + ", one more", x.year(seed, odds + 1, 0), wet);
            Check.due("seed " + seed + ", odds 0", x.year(seed, 0, 0), dry);
            Check.due("seed " + seed + ", odds 100", x.year(seed, 100, 0), wet);
        }
    }

    private static void roadByRoad() {
        Check.term("VI", "A YEAR drawn: ROAD by ROAD");
        SlowOrder x = Check.told(LAND + says(5, 0, 2, 0));
        int[] odds = {0, 1, 30, 50, 99, 100};
        for (int sent = 0; sent < 36; sent += 7) {
            x.sends(0, sent);
            for (int seed = 5; seed < 15; seed++) {
                for (int o : odds) {
                    Check.due("year(" + seed + ", " + o + ", 0) sent at " + sent, x.year(seed, o, 0), comesIn(seed, o, 40, sent));
                }
            }
        }
    }

    private static void allHours() {
        Check.term("VI", "x becomes (1103515245 x + 12345) modulo 2,147,483,648 (at first it is the seed)");
        int[] seeds = {0, 1, 65535, 65536, 1073741823, 1073741824, 1999999999, LAST_SEED};
        int[] hours = {5, 6, 40, 64, 98, 99};
        for (int h : hours) {
            SlowOrder x = Check.told(LAND.replace("hours 40", "hours " + h) + says(5, 0, 2, 0));
            for (int seed : seeds) {
                for (int sent = 0; sent < h; sent += 1 + h / 7) {
                    x.sends(0, sent);
                    Check.due("year(" + seed + ", 100, 0) of " + h + " sent at " + sent, x.year(seed, 100, 0),
                        comesIn(seed, 100, h, sent));
                }
            }
        }
    }

    /** A FLOOD that is drawn beyond the last HOUR ends with it: it is none of another ROAD's first HOURS. */
    private static void beyondTheLastHour() {
        Check.term("VI", "from a draw of hours on, for a draw of 12 HOURS and one more");
        SlowOrder x = Check.told(LAND.replace("hours 40", "hours 99") + says(5, 1, 2, 0));
        int beyond = 0;
        for (int seed = 0; seed < 400; seed++) {
            drawn = seed;
            draw(100);
            beyond += draw(99) + draw(12) >= 99 ? 1 : 0;
            draw(100);
            int from = draw(99);
            int hours = draw(12) + 1;
            Check.due("year(" + seed + ", 100, 0)", x.year(seed, 100, 0), from == 0 ? hours + 3 : 3);
        }
        Check.so("some are beyond", beyond > 10);
    }

    private static void twelveRoads() {
        Check.term("VI", "ROAD by ROAD");
        StringBuilder s = new StringBuilder("realm towns 8 hours 99;");
        for (int t = 0; t < 7; t++) {
            s.append("road ").append(t).append(" to ").append(t + 1).append(" hours 1;");
        }
        s.append("road 0 to 2 hours 9;road 0 to 3 hours 9;road 0 to 4 hours 9;road 0 to 5 hours 9;road 0 to 7 hours 2;");
        SlowOrder x = Check.told(s + "rider pace 1 rests 0;" + says(5, 0, 7, 0));
        for (int seed = 0; seed < 60; seed++) {
            drawn = seed;
            for (int r = 0; r < 11; r++) {
                draw(100);
                draw(99);
                draw(12);
            }
            draw(100);
            int from = draw(99);
            int hours = draw(12) + 1;
            x.sends(0, from);
            Check.due("the last road, seed " + seed, x.year(seed, 100, 0), from + hours + 2 < 99 ? from + hours + 2 : -1);
            Check.due("without, seed " + seed, x.year(seed, 0, 0), from + 2 < 99 ? from + 2 : -1);
        }
    }

    private static void never() {
        Check.promise(38, "NONE: never");
        SlowOrder x = Check.told("realm towns 3 hours 5;road 0 to 1 hours 1;rider pace 1 rests 0;" + says(5, 0, 1, 3)
            + says(5, 0, 1, 4) + says(5, 0, 2, 0));
        Check.due("in the last HOUR", x.year(0, 0, 0), 4);
        Check.due("beyond it", x.year(0, 0, 1), -1);
        Check.due("no way", x.year(0, 0, 2), -1);
        Check.due("no way", x.year(7, 100, 2), -1);
        x.seal(2);
        Check.promise(38, "the HOUR in which an ORDER COMES");
        Check.due("the seal does not keep it from coming", x.year(0, 0, 0), 4);
    }

    private static void noSuchYear() {
        Check.promise(38, "-2: there are none such");
        SlowOrder x = Check.told(LAND + says(5, 0, 1, 0));
        int[][] bad = {{-1, 0, 0}, {LEAST, 0, 0}, {LAST_SEED + 1, 0, 0}, {MOST, 0, 0}, {0, -1, 0}, {0, 101, 0}, {0, MOST, 0},
            {0, LEAST, 0}, {0, 0, 1}, {0, 0, 9}, {0, 0, 10}, {0, 0, -1}, {0, 0, MOST}, {0, 0, LEAST}};
        for (int[] b : bad) {
            Check.due("year(" + b[0] + ", " + b[1] + ", " + b[2] + ")", x.year(b[0], b[1], b[2]), -2);
        }
        Check.due("the least", x.year(0, 0, 0), 2);
        Check.due("the greatest seed", x.year(LAST_SEED, 0, 0), 2);
        Check.due("the greatest odds", x.year(LAST_SEED, 100, 0), comesIn(LAST_SEED, 100, 40, 0) < 0 ? 0
            : firstRoad(LAST_SEED));
        Check.due("no realm", new SlowOrder().year(0, 0, 0), -2);
    }

    private static int firstRoad(long seed) {
        drawn = seed;
        draw(100);
        int from = draw(40);
        int hours = draw(12) + 1;
        return from == 0 ? hours + 2 : 2;
    }

    // ---- promise 39 ----

    /** In how many of the years 5 (sent at 20), 6 (sent at 2) or nothing holds in 2 at an HOUR. */
    private static int[] count(int seed, int n, int odds, int hour) {
        int[] all = new int[3];
        for (int y = 0; y < n; y++) {
            int late = comesIn((long) seed + y, odds, 40, 20);
            int early = comesIn((long) seed + y, odds, 40, 2);
            boolean lateIs = late >= 0 && late <= hour;
            boolean earlyIs = early >= 0 && early <= hour;
            // of one HOUR that with the greater number, which is 6
            all[earlyIs && (!lateIs || early >= late) ? 1 : lateIs ? 0 : 2]++;
        }
        return all;
    }

    private static void years() {
        Check.promise(39, "Of n such YEARS (1 .. 20) from seeds, the seed and 1, .., in how many something");
        SlowOrder x = Check.told(LAND + says(5, 0, 2, 20) + says(6, 0, 2, 2));
        int[] numbers = {1, 2, 19, 20};
        int[] hours = {0, 6, 7, 9, 25, 30, 39};
        for (int n : numbers) {
            for (int hour : hours) {
                int[] due = count(40, n, 60, hour);
                String at = "years(40, " + n + ", 60, 2, 0, ";
                Check.due(at + "5, " + hour + ")", x.years(40, n, 60, 2, 0, 5, hour), due[0]);
                Check.due(at + "6, " + hour + ")", x.years(40, n, 60, 2, 0, 6, hour), due[1]);
                Check.due(at + "-1, " + hour + ")", x.years(40, n, 60, 2, 0, -1, hour), due[2]);
                Check.due(at + "9, " + hour + ")", x.years(40, n, 60, 2, 0, 9, hour), 0);
            }
        }
        Check.due("what holds stays", x.holds(2, 0, 25), 5);
        Check.due("what comes stays", x.comes(1), 7);
        for (int seed = 0; seed < 30; seed++) {
            x.years(seed, 1, 100, 2, 0, 5, 39);
            Check.due("what holds stays behind seed " + seed, x.holds(2, 0, 24), 6);
            Check.due("what holds stays behind seed " + seed, x.holds(2, 0, 25), 5);
            Check.due("what comes stays behind seed " + seed, x.holds(2, 0, 6), -1);
            Check.due("what comes stays behind seed " + seed, x.holds(2, 0, 7), 6);
        }
    }

    private static void yearsOfNothing() {
        Check.promise(39, "something (0 .. 9; NONE: nothing)");
        SlowOrder x = Check.told(LAND + says(0, 0, 2, 0) + "seal 5;");
        Check.due("0 is not nothing", x.years(0, 20, 0, 2, 0, -1, 5), 0);
        Check.due("0 is something", x.years(0, 20, 0, 2, 0, 0, 5), 20);
        Check.due("ahead of its coming", x.years(0, 20, 0, 2, 0, -1, 4), 20);
        Check.due("elsewhere", x.years(0, 20, 100, 1, 0, -1, 39), 20);
        Check.due("about another THING", x.years(0, 7, 100, 2, 2, -1, 39), 7);
        x.seal(4);
        Check.due("sealed", x.years(0, 20, 0, 2, 0, -1, 39), 20);
        Check.due("sealed", x.years(0, 20, 0, 2, 0, 0, 39), 0);
    }

    private static void lastSeeds() {
        Check.promise(39, "from seeds, the seed and 1, ..");
        SlowOrder x = Check.told(LAND + says(5, 0, 2, 20) + says(6, 0, 2, 2));
        int[] seeds = {0, 1999999981, 1999999999, LAST_SEED};
        for (int seed : seeds) {
            for (int hour = 5; hour < 40; hour += 4) {
                int[] due = count(seed, 20, 90, hour);
                String at = "years(" + seed + ", 20, 90, 2, 0, ";
                Check.due(at + "5, " + hour + ")", x.years(seed, 20, 90, 2, 0, 5, hour), due[0]);
                Check.due(at + "6, " + hour + ")", x.years(seed, 20, 90, 2, 0, 6, hour), due[1]);
                Check.due(at + "-1, " + hour + ")", x.years(seed, 20, 90, 2, 0, -1, hour), due[2]);
            }
        }
    }

    private static void noSuchYears() {
        Check.promise(39, "-2: there are none such");
        SlowOrder x = Check.told(LAND + says(5, 0, 2, 20));
        int[] good = {0, 1, 0, 0, 0, 0, 0};
        int[][] bad = {{-1, LAST_SEED + 1, MOST, LEAST}, {0, 21, -1, 100, MOST, LEAST}, {-1, 101, MOST, LEAST},
            {3, 8, -1, MOST, LEAST}, {3, -1, MOST, LEAST}, {10, -2, MOST, LEAST}, {40, 99, -1, MOST, LEAST}};
        for (int i = 0; i < 7; i++) {
            for (int v : bad[i]) {
                int[] a = good.clone();
                a[i] = v;
                Check.due("argument " + i + " is " + v, x.years(a[0], a[1], a[2], a[3], a[4], a[5], a[6]), -2);
            }
        }
        Check.due("the least", x.years(0, 1, 0, 0, 0, -1, 0), 1);
        Check.due("the greatest", x.years(LAST_SEED, 20, 100, 2, 2, 9, 39), 0);
        Check.due("no realm", new SlowOrder().years(0, 1, 0, 0, 0, -1, 0), -2);
    }
}
