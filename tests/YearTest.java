/** Promises 38 and 39: year, years. */
public final class YearTest {
    private static final String LAND = "realm towns 3 hours 40;road 0 to 1 hours 2;road 1 to 2 hours 3;"
        + "flood 1 to 2 from 4 to 6;rider pace 1 rests 0;order rider 0 on 0 says 5 from 0 to 2 at 2;"
        + "order rider 0 on 0 says 6 from 0 to 1 at 38;order rider 0 on 0 says 6 from 0 to 1 at 37;";

    public static void main(String[] args) {
        noFloods();
        drawnByHand();
        allSeeds();
        years();
        wrong();
        Check.finish();
    }

    private static void noFloods() {
        SlowOrder x = Check.told(LAND);
        for (int seed = 0; seed < 20; seed++) {
            Check.due("as told", x.year(seed, 0, 0), 10);
            Check.due("beyond the last hour: never", x.year(seed, 0, 1), -1);
            Check.due("in the last hour", x.year(seed, 0, 2), 39);
        }
        Check.due("greatest seed", x.year(2000000000, 0, 0), 10);
    }

    private static void drawnByHand() {
        // seed 0: x = 12345, draw of 100: 0; x = 1406932606: 21468 modulo 40 = 28; x = 654583775: 9988 modulo 12 = 4
        // road 0 to 1 is in flood from 28 on for 5 hours; the next: x = 1449466924: 22117 modulo 100 = 17
        SlowOrder x = Check.told("realm towns 3 hours 40;road 0 to 1 hours 2;road 1 to 2 hours 3;rider pace 1 rests 0;"
            + "order rider 0 on 0 says 5 from 0 to 1 at 27;order rider 0 on 0 says 5 from 0 to 1 at 28;"
            + "order rider 0 on 0 says 5 from 0 to 1 at 32;order rider 0 on 0 says 5 from 0 to 1 at 33;");
        Check.due("ahead of the flood", x.year(0, 1, 0), 29);
        Check.due("in its first hour", x.year(0, 1, 1), 35);
        Check.due("in its last hour", x.year(0, 1, 2), 35);
        Check.due("behind it", x.year(0, 1, 3), 35);
        Check.due("odds 0", x.year(0, 0, 1), 30);
        Check.due("told hours stay", x.comes(1), 30);
    }

    /** The draws once more, for one road and one rider. */
    private static int comesIn(int seed, int odds, int sent) {
        long x = seed;
        int from = 99;
        int hours = 0;
        x = (1103515245L * x + 12345L) % 2147483648L;
        if (x / 65536 % 100 < odds) {
            x = (1103515245L * x + 12345L) % 2147483648L;
            from = (int) (x / 65536 % 30);
            x = (1103515245L * x + 12345L) % 2147483648L;
            hours = (int) (x / 65536 % 12) + 1;
        }
        int out = sent >= from && sent < from + hours ? from + hours : sent;
        return out + 3 < 30 ? out + 3 : -1;
    }

    private static void allSeeds() {
        SlowOrder x = Check.told("realm towns 2 hours 30;road 0 to 1 hours 3;rider pace 1 rests 0;"
            + "order rider 0 on 0 says 5 from 0 to 1 at 20;");
        int[] seeds = {0, 1, 2, 3, 1000, 65535, 65536, 123456789, 1999999999, 2000000000};
        for (int seed : seeds) {
            for (int odds = 0; odds <= 100; odds += 10) {
                Check.due("year(" + seed + ", " + odds + ")", x.year(seed, odds, 0), comesIn(seed, odds, 20));
            }
        }
    }

    private static void years() {
        SlowOrder x = Check.told("realm towns 2 hours 30;road 0 to 1 hours 3;rider pace 1 rests 0;"
            + "order rider 0 on 0 says 5 from 0 to 1 at 20;order rider 0 on 0 says 6 from 0 to 1 at 2;");
        int[] seeds = {0, 77, 1999999990, 2000000000};
        for (int seed : seeds) {
            int had = 0;
            int other = 0;
            int nothing = 0;
            for (int y = 0; y < 20; y++) {
                int first = comesIn(seed + y, 70, 20);
                int second = comesIn(seed + y, 70, 2);
                if (first != -1 && first <= 23) {
                    had++;
                } else if (second != -1 && second <= 23) {
                    other++;
                } else {
                    nothing++;
                }
            }
            Check.due("years 5", x.years(seed, 20, 70, 1, 0, 5, 23), had);
            Check.due("years 6", x.years(seed, 20, 70, 1, 0, 6, 23), other);
            Check.due("years nothing", x.years(seed, 20, 70, 1, 0, -1, 23), nothing);
            Check.due("one year", x.years(seed, 1, 0, 1, 0, 5, 23), 1);
        }
        Check.due("nothing in all", x.years(5, 20, 100, 0, 0, -1, 29), 20);
        Check.due("nothing about another thing", x.years(5, 3, 100, 1, 1, -1, 29), 3);
        Check.due("what holds stays", x.holds(1, 0, 23), 5);
        Check.due("what comes stays", x.comes(0), 23);
    }

    private static void wrong() {
        SlowOrder x = Check.told(LAND);
        int[][] bad = {{-1, 0, 0}, {2000000001, 0, 0}, {0, -1, 0}, {0, 101, 0}, {0, 0, 3}, {0, 0, -1}};
        for (int[] b : bad) {
            Check.due("year", x.year(b[0], b[1], b[2]), -2);
        }
        int[][] all = {{-1, 1, 0, 0, 0, 0, 0}, {2000000001, 1, 0, 0, 0, 0, 0}, {0, 0, 0, 0, 0, 0, 0},
            {0, 21, 0, 0, 0, 0, 0}, {0, 1, -1, 0, 0, 0, 0}, {0, 1, 101, 0, 0, 0, 0}, {0, 1, 0, 3, 0, 0, 0},
            {0, 1, 0, -1, 0, 0, 0}, {0, 1, 0, 0, 3, 0, 0}, {0, 1, 0, 0, -1, 0, 0}, {0, 1, 0, 0, 0, 10, 0},
            {0, 1, 0, 0, 0, -2, 0}, {0, 1, 0, 0, 0, 0, 40}, {0, 1, 0, 0, 0, 0, -1}};
        for (int[] b : all) {
            Check.due("years", x.years(b[0], b[1], b[2], b[3], b[4], b[5], b[6]), -2);
        }
    }
}
