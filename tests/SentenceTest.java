import java.util.ArrayList;
import java.util.List;
import java.util.function.IntUnaryOperator;

/** Those sentences of the document that name no boundary case (EdgesTest has the others), one by one. */
public final class SentenceTest {
    private static final String HEAD = "realm towns 4 hours 20;";
    private static final String ROADS = HEAD + "road 0 to 1 hours 2;road 1 to 2 hours 3;";
    private static final String RIDER = ROADS + "rider pace 1 rests 0;";
    private static final String SAYS = RIDER + "order rider 0 on 0 says 1 from 0 to 1 at 0;";
    private static final String[][] LINES = {
        {"", "realm towns 4 hours 20 ;"},
        {HEAD, "road 0 to 1 hours 2 ;"},
        {ROADS, "flood 0 to 1 from 2 to 3 ;"},
        {ROADS, "rider pace 1 rests 0 ;"},
        {RIDER, "order rider 0 on 0 says 1 from 0 to 1 at 0 ;"},
        {RIDER, "order rider 0 on 0 says 1 from 0 to 1 at 0 via 1 2 3 ;"},
        {SAYS, "order rider 0 on 2 undoes 0 from 0 to 1 at 3 ;"},
        {SAYS, "order rider 0 on 2 undoes 0 from 0 to 1 at 3 via 2 ;"},
        {SAYS, "wish 0 says 1 in 1 at 4 ;"},
        {SAYS, "seal 5 ;"}};
    // 0 goes by 1 to 2, where 1 comes later and 2 undoes that; 3 meets 1
    private static final String LAND = ROADS + "flood 1 to 2 from 2 to 3;rider pace 1 rests 0;rider pace 2 rests 1;"
        + "order rider 0 on 0 says 5 from 0 to 2 at 0;order rider 1 on 0 says 7 from 0 to 2 at 1;"
        + "order rider 0 on 1 undoes 1 from 1 to 2 at 12;order rider 0 on 1 says 4 from 2 to 1 at 8;"
        + "wish 0 says 5 in 2 at 14;";
    private static final int MOST = Integer.MAX_VALUE;
    private static final int LEAST = Integer.MIN_VALUE;

    public static void main(String[] args) {
        lines();
        firstWord();
        widths();
        hours();
        quickest();
        holds();
        discord();
        best();
        delay();
        queen();
        book();
        seen();
        draws();
        years();
        paste();
        Check.finish();
    }

    // ---- Term I ----

    private static String joined(String[] tokens, int from, int to) {
        StringBuilder s = new StringBuilder();
        for (int i = from; i < to; i++) {
            s.append(tokens[i]).append(' ');
        }
        return s.toString();
    }

    private static void lines() {
        Check.term("I", "LINE: realm towns N hours N | road T to T hours N | flood T to T from N to N | "
            + "rider pace N rests N | order rider N on N says N from T to T at N [via T {T}] | "
            + "order rider N on N undoes N from T to T at N [via T {T}] | wish N says N in T at N | seal N.");
        for (String[] line : LINES) {
            String[] tokens = line[1].split(" ");
            Check.so(line[1], Check.tell(new SlowOrder(), line[0] + line[1]) > 0);
            Check.so(line[1] + " without blanks where none need be",
                Check.tell(new SlowOrder(), line[0] + line[1].replace(" ;", ";")) > 0);
            for (int i = 0; i < tokens.length; i++) {
                String ahead = line[0] + joined(tokens, 0, i);
                String behind = " " + joined(tokens, i + 1, tokens.length);
                if (i > 0) {
                    Check.refused(ahead, 1, ahead.length());
                }
                others(tokens, i, ahead, behind);
            }
        }
    }

    /** Others stand in the place of a TOKEN: that is a FAULT at its place, but where via may go on or end. */
    private static void others(String[] tokens, int i, String ahead, String behind) {
        boolean isNumber = tokens[i].matches("\\d+");
        boolean isOfVia = isNumber && i > 0 && (tokens[i - 1].matches("via|\\d+"));
        boolean isFurther = isOfVia && !tokens[i - 1].equals("via");
        Check.refused(ahead + "x" + behind, 1, ahead.length());
        Check.refused(ahead + "," + behind, 1, ahead.length());
        if (!isNumber && !(tokens[i].equals(";") && behind.isBlank() && ahead.matches(".*via \\d+ "))) {
            Check.refused(ahead + "0" + behind, 1, ahead.length());
        }
        if (!isFurther && !tokens[i].equals(";") && !tokens[i].equals("via")) {
            Check.refused(ahead + ";" + behind, 1, ahead.length());
        }
        if (!isOfVia) {
            String twice = ahead + tokens[i] + " ";
            Check.refused(twice + tokens[i] + behind, 1, twice.length());
        }
    }

    private static void firstWord() {
        Check.term("I", "realm behind the first LINE, another word ahead of it");
        String[] words = {"road 0 to 1 hours 2;", "flood 0 to 1 from 2 to 3;", "rider pace 1 rests 0;",
            "order rider 0 on 0 says 1 from 0 to 1 at 0;", "wish 0 says 1 in 1 at 4;", "seal 5;", "towns 4 hours 20;",
            "x;", "realms towns 4 hours 20;"};
        for (String word : words) {
            Check.refused(word + HEAD, 1, 0);
            Check.refused(" \n" + word, 1, 2);
        }
        String[] texts = {HEAD, ROADS, RIDER, SAYS, SAYS + "wish 0 says 1 in 1 at 4;", SAYS + "seal 5;"};
        for (String text : texts) {
            Check.refused(text + HEAD, 1, text.length());
            Check.refused(text + " realm", 1, text.length() + 1);
        }
    }

    private static void widths() {
        Check.term("I", "SLOTS 0 .. 3 have rows of numbers of 1, 2, 4 or 8 bytes (WIDTH 0 .. 3)");
        SlowOrder x = Check.told(LAND);
        for (int slot = 0; slot < 4; slot++) {
            for (int width = 0; width < 4; width++) {
                // the first number is ORDER 0 if its one bit is cut off, else there is no such ORDER
                for (int cut = 0; cut < 4; cut++) {
                    x.row(slot, width, 3);
                    x.write(slot, 0, cut == 3 ? 0 : 1L << (8 << cut));
                    x.write(slot, 1, 2);
                    x.write(slot, 2, 7);
                    Check.due("WIDTH " + width + ", cut at " + (8 << cut), x.forged(slot),
                        cut == 3 || width <= cut ? 0 : -2);
                }
            }
        }
    }

    // ---- Term II and III ----

    private static void hours() {
        Check.term("II", "HOURS 0 .. hours less 1");
        SlowOrder x = Check.told(LAND);
        Check.row(x, 0, 0);
        List<IntUnaryOperator> calls = new ArrayList<>(List.of(h -> x.rider(0, h), h -> x.holds(0, 0, h),
            h -> x.whose(0, 0, h), h -> x.undone(0, h), h -> x.latest(0, h), h -> x.earliest(0, h), h -> x.ways(0, h),
            h -> x.best(0, h, 0), h -> x.delay(0, 0, 3, h, 0)));
        calls.addAll(List.of(h -> x.queen(0, 1, 0, 3, h), h -> x.sure(0, 0, 0, 0, h),
            h -> x.years(0, 1, 0, 0, 0, 3, h), h -> x.sends(0, h)));
        for (int c = 0; c < calls.size(); c++) {
            int call = c;
            IntUnaryOperator at = calls.get(c);
            for (int h = 0; h < 20; h += h == 0 ? 9 : 5) {
                Check.so("call " + call + " at " + h, at.applyAsInt(h) != -2);
            }
            Check.so("call " + call + " at 19", at.applyAsInt(19) != -2);
            for (int h : new int[] {-1, 20, 21, 99, MOST, LEAST}) {
                Check.due("call " + call + " at " + h, at.applyAsInt(h), -2);
            }
        }
    }

    private static void quickest() {
        Check.term("II", "QUICKEST way from a TOWN to another one: the fewest hours of its ROADS together");
        SlowOrder x = Check.told("realm towns 4 hours 20;road 0 to 3 hours 9;road 0 to 2 hours 4;road 2 to 1 hours 2;"
            + "road 1 to 3 hours 2;");
        int[][] far = {{0, 6, 4, 8}, {6, 0, 2, 2}, {4, 2, 0, 4}, {8, 2, 4, 0}};
        for (int a = 0; a < 4; a++) {
            for (int b = 0; b < 4; b++) {
                Check.promise(6, "from a TOWN to another one");
                Check.due("hours(" + a + ", " + b + ")", x.hours(a, b), far[a][b]);
            }
        }
        Check.promise(7, "The i-th TOWN of it");
        int[] way = {0, 2, 1, 3};
        for (int i = 0; i < 4; i++) {
            Check.due("way(0, 3, " + i + ")", x.way(0, 3, i), way[i]);
            Check.due("way(3, 0, " + i + ")", x.way(3, 0, i), way[3 - i]);
        }
    }

    private static void holds() {
        SlowOrder x = Check.told(LAND);
        int[] due = new int[20];
        for (int h = 0; h < 20; h++) {
            due[h] = h < 7 ? -1 : h < 12 ? 0 : h < 15 ? 1 : 0;
        }
        for (int h = 0; h < 20; h++) {
            Check.promise(12, "What HOLDS in a TOWN about a THING at an HOUR (III)");
            Check.due("holds(2, 0, " + h + ")", x.holds(2, 0, h), due[h] < 0 ? -1 : 5 + 2 * due[h]);
            Check.due("holds(1, 1, " + h + ")", x.holds(1, 1, h), h < 11 ? -1 : 4);
            Check.due("holds(2, 1, " + h + ")", x.holds(2, 1, h), -1);
            Check.promise(13, "The ORDER by which it does.");
            Check.due("whose(2, 0, " + h + ")", x.whose(2, 0, h), due[h]);
            Check.due("whose(1, 1, " + h + ")", x.whose(1, 1, h), h < 11 ? -1 : 3);
            Check.due("whose(2, 1, " + h + ")", x.whose(2, 1, h), -1);
            Check.term("III", "In a TOWN about a THING at an HOUR there are the ORDERS that have COME there by then");
            Check.due("holds(0, 0, " + h + ")", x.holds(0, 0, h), -1);
            Check.due("undone(2, " + h + ")", x.undone(2, h), h < 15 ? 0 : 2);
        }
    }

    private static void discord() {
        Check.term("III", "DISCORD about a THING: HOURS by ROADS: each HOUR for each ROAD whose two TOWNS are not told the same");
        SlowOrder x = Check.told(LAND);
        Check.due("one ROAD from 7 on", x.discord(0), 13);
        Check.due("two ROADS from 11 on", x.discord(1), 18);
        Check.due("none", x.discord(2), 0);
    }

    // ---- promises 24 to 26 ----

    private static void best() {
        Check.promise(24, "what 0: RIDER, 1: HOUR, 2: TOWN by way of which (NONE: none)");
        SlowOrder x = Check.told("realm towns 3 hours 20;road 0 to 1 hours 2;road 0 to 2 hours 2;road 2 to 1 hours 2;"
            + "flood 0 to 1 from 0 to 8;rider pace 9 rests 0;rider pace 1 rests 0;"
            + "order rider 0 on 0 says 5 from 0 to 1 at 0;order rider 1 on 0 says 6 from 2 to 1 at 4;");
        Check.due("one alone", x.ways(0, 7), 1);
        Check.due("RIDER", x.best(0, 7, 0), 1);
        Check.due("HOUR", x.best(0, 7, 1), 3);
        Check.due("TOWN", x.best(0, 7, 2), 2);
        Check.due("RIDER", x.best(1, 7, 0), 1);
        Check.due("HOUR", x.best(1, 7, 1), 0);
        Check.due("no TOWN", x.best(1, 7, 2), -1);
    }

    private static void delay() {
        Check.promise(25, "so that something (0 .. 9; NONE: nothing) HOLDS in a TOWN about a THING at an HOUR: what 0: how many");
        SlowOrder x = Check.told(LAND);
        int[][] due = {{14, 5, 3, 1}, {14, 7, 0, -1}, {14, -1, -1, -1}, {15, 7, 1, 2}, {15, 5, 0, -1}, {11, -1, 7, 0},
            {7, -1, 3, 0}, {6, -1, 0, -1}, {19, 4, -1, -1}};
        for (int[] d : due) {
            String call = "delay(2, 0, " + d[1] + ", " + d[0] + ", ";
            Check.due(call + "0)", x.delay(2, 0, d[1], d[0], 0), d[2]);
            Check.due(call + "1)", x.delay(2, 0, d[1], d[0], 1), d[3]);
        }
        Check.due("about another THING", x.delay(1, 1, -1, 11, 0), 1);
        Check.due("by", x.delay(1, 1, -1, 11, 1), 3);
    }

    private static void queen() {
        Check.promise(26, "can send something (0 .. 9) so that hers HOLDS in another TOWN about a THING at an HOUR");
        SlowOrder x = Check.told(LAND);
        for (int says = 0; says < 10; says++) {
            Check.due("queen(0, 2, 0, " + says + ", 10)", x.queen(0, 2, 0, says, 10), 5);
            Check.due("queen(2, 0, 2, " + says + ", 19)", x.queen(2, 0, 2, says, 19), 14);
        }
        Check.due("queen(0, 2, 0, -1, 10)", x.queen(0, 2, 0, -1, 10), -2);
        Check.due("queen(0, 2, 0, 10, 10)", x.queen(0, 2, 0, 10, 10), -2);
        int[] latest = {-1, -1, -1, 0, 1, 1, 1, 4, 5};
        for (int h = 0; h < latest.length; h++) {
            Check.due("queen(1, 2, 0, 1, " + h + ")", x.queen(1, 2, 0, 1, h), latest[h]);
        }
    }

    // ---- promises 33 and 34 ----

    private static void book() {
        Check.promise(33, "BOOK: a SLOT's row, three numbers each: an ORDER, a TOWN, "
            + "the HOUR in which its RIDER is told to have come to it (first): how many are not so");
        SlowOrder x = Check.told(LAND);
        int[] all = {0, 0, 0, 0, 1, 2, 0, 2, 7, 1, 0, 1, 1, 1, 5, 1, 2, 12, 2, 1, 12, 2, 2, 15, 3, 2, 8, 3, 1, 11};
        x.row(0, 0, all.length);
        for (int i = 0; i < all.length; i++) {
            x.write(0, i, all[i]);
        }
        Check.due("all so", x.forged(0), 0);
        for (int i = 2; i < all.length; i += 3) {
            x.write(0, i, all[i] + 1);
            Check.due("one later than told", x.forged(0), 1);
            x.write(0, i, all[i] - 1);
            Check.due("one ahead", x.forged(0), 1);
            x.write(0, i, all[i]);
        }
        for (int i = 2; i < all.length; i += 3) {
            x.write(0, i, 19);
            Check.due("one more", x.forged(0), 1 + i / 3);
        }
    }

    private static void seen() {
        Check.promise(34, "SEEN: a SLOT's row, four numbers each: a TOWN, a THING, an HOUR, what HELD (NONE: nothing): "
            + "at how many HOURS (0 .. hours less 1) an ORDER may have been sent so that all is so");
        SlowOrder x = Check.told(LAND);
        Check.row(x, 0, 0, 2, 0, 14, 7);
        Check.due("order 1 sent at 0 to 3", x.agree(0, 1), 4);
        Check.due("order 0 sent at 0 to 7 or behind 9", x.agree(0, 0), 18);
        Check.due("order 2 comes behind 14 or undoes it", x.agree(0, 2), 8);
        Check.row(x, 0, 0, 2, 0, 14, 7, 2, 0, 11, 7);
        Check.due("order 1 sent at 0 alone", x.agree(0, 1), 1);
        Check.row(x, 0, 0, 2, 0, 14, 7, 2, 0, 11, -1);
        Check.due("order 0 held all", x.agree(0, 1), 0);
    }

    // ---- Term VI and promises 38 and 39 ----

    private static long draw(long x) {
        return (1103515245L * x + 12345L) & 0x7fffffffL;
    }

    private static void draws() {
        StringBuilder text = new StringBuilder("realm towns 2 hours 99;road 0 to 1 hours 1;rider pace 1 rests 0;");
        for (int o = 0; o < 10; o++) {
            text.append("order rider 0 on 0 says 1 from 0 to 1 at ").append(10 * o).append(';');
        }
        for (int seed : new int[] {0, 1, 2, 77, 4711, 65535, 65536, 1000000, 123456789, 1999999999, 2000000000}) {
            SlowOrder x = Check.told(text.toString());
            long first = draw(seed);
            long second = draw(first);
            long third = draw(second);
            long from = second / 65536 % 99;
            long more = third / 65536 % 12;
            for (int o = 0; o < 10; o++) {
                int sent = 10 * o;
                long out = sent >= from && sent <= from + more ? from + more + 1 : sent;
                long due = out + 1 < 99 ? out + 1 : -1;
                Check.term("VI", "a draw of n: x / 65536, cut, modulo n.");
                Check.promise(38, "In a YEAR drawn (VI) from a seed (0 .. 2,000,000,000), odds 0 .. 100, "
                    + "the HOUR in which an ORDER COMES");
                Check.due("year(" + seed + ", 100, " + o + ")", x.year(seed, 100, o), due);
                int odds = (int) (first / 65536 % 100);
                Check.due("year(" + seed + ", " + odds + ", " + o + ")", x.year(seed, odds, o), sent + 1);
                Check.due("year(" + seed + ", " + (odds + 1) + ", " + o + ")", x.year(seed, odds + 1, o), due);
            }
        }
    }

    private static void years() {
        Check.promise(39, "Of n such YEARS (1 .. 20) from seeds, the seed and 1, .., "
            + "in how many something (0 .. 9; NONE: nothing) HOLDS in a TOWN about a THING at an HOUR.");
        for (int odds = 0; odds <= 100; odds += 25) {
            SlowOrder x = Check.told(LAND);
            for (int seed = 0; seed < 400; seed += 133) {
                for (int n = 1; n <= 20; n += 6) {
                    int late = 0;
                    for (int y = 0; y < n; y++) {
                        int came = x.year(seed + y, odds, 0);
                        late += came == -1 || came > 8 ? 1 : 0;
                    }
                    Check.due("nothing in 2 at 8", x.years(seed, n, odds, 2, 0, -1, 8), late);
                    Check.due("5 in 2 at 8", x.years(seed, n, odds, 2, 0, 5, 8), n - late);
                    Check.due("7 in 2 at 8", x.years(seed, n, odds, 2, 0, 7, 8), 0);
                }
            }
        }
    }

    // ---- promise 45 ----

    private static void paste() {
        Check.promise(45, "or a place or n is below 0.");
        SlowOrder x = Check.told(LAND);
        Check.row(x, 0, 0, 0, 2, 7);
        Check.row(x, 1, 0, 0, 2, 7);
        for (int below : new int[] {-1, -2, -60, LEAST}) {
            for (int n = 0; n < 3; n++) {
                Check.due("from " + below, x.paste(0, below, 1, 0, n), -7);
                Check.due("to " + below, x.paste(0, 0, 1, below, n), -7);
                Check.due("from and to " + below, x.paste(0, below, 1, below, n), -7);
                Check.due("so many: " + below, x.paste(0, n, 1, n, below), -7);
                Check.due("its own", x.paste(0, n, 0, n, below), -7);
            }
        }
        Check.due("nothing happens", x.forged(0), 0);
        Check.due("nothing happens", x.forged(1), 0);
    }
}
