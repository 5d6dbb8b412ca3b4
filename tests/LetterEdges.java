/** Promises 31 to 37 and Term V: the sentences that name a boundary case. */
final class LetterEdges {
    private static final String LAND = "realm towns 4 hours 20;road 0 to 1 hours 4;road 1 to 2 hours 3;"
        + "rider pace 1 rests 0;rider pace 2 rests 1;";
    private static final int MOST = Integer.MAX_VALUE;
    private static final int LEAST = Integer.MIN_VALUE;

    private LetterEdges() {
    }

    static void all() {
        aheadOfComing();
        onOneRoad();
        waitingIsNotOnIt();
        beyondTheLastHour();
        eachPairOnce();
        noSuchMeeting();
        forgedFirst();
        forgedNotSo();
        noSuchBook();
        agreeing();
        heldMayBeAny();
        whenNotSoMany();
        sure();
        sureAheadOf();
        noSuchSeen();
        notFourEach();
        badNumbers();
        matters();
        mattersByNothing();
        noSuchMatter();
    }

    private static String order(int rider, String what, int from, int to, int hour) {
        return "order rider " + rider + " on 0 " + what + " from " + from + " to " + to + " at " + hour + ";";
    }

    private static void meet(SlowOrder x, int a, int b, int due) {
        Check.due("meets(" + a + ", " + b + ")", x.meets(a, b), due);
        Check.due("meets(" + b + ", " + a + ")", x.meets(b, a), due);
    }

    // ---- Term V, promises 31 and 32 ----

    private static void aheadOfComing() {
        Check.term("V", "so that each sets out on it ahead of the other one's coming to its end");
        SlowOrder x = Check.told(LAND + order(0, "says 1", 0, 1, 8) + order(0, "says 1", 1, 0, 0));
        for (int hour = 0; hour < 20; hour++) {
            x.sends(1, hour);
            int due = hour >= 5 && hour <= 11 ? 1 : 0;
            Check.promise(32, "Whether two ORDERS do: 1, 0");
            meet(x, 0, 1, due);
            Check.promise(31, "how many pairs of ORDERS do");
            Check.due("cross() with the other at " + hour, x.cross(), due);
        }
        // a slow one and a swift one
        x = Check.told(LAND + order(1, "says 1", 0, 1, 4) + order(0, "undoes 0", 1, 0, 0));
        for (int hour = 0; hour < 20; hour++) {
            x.sends(1, hour);
            meet(x, 0, 1, hour >= 1 && hour <= 11 ? 1 : 0);
        }
    }

    private static void onOneRoad() {
        Check.term("V", "two ORDERS on one ROAD, one each way");
        SlowOrder x = Check.told(LAND + order(0, "says 1", 0, 1, 0) + order(0, "says 1", 0, 1, 0)
            + order(0, "says 1", 1, 2, 0) + order(0, "says 1", 2, 1, 0) + order(0, "says 1", 2, 0, 0));
        meet(x, 0, 1, 0);
        meet(x, 0, 2, 0);
        meet(x, 0, 3, 0);
        meet(x, 2, 3, 1);
        meet(x, 2, 4, 1);
        // 4 is on the other road from 3 to 7
        meet(x, 0, 4, 1);
        meet(x, 3, 4, 0);
        Check.due("pairs", x.cross(), 4);
        // through a town at once, on either road not
        x = Check.told(LAND + order(0, "says 1", 0, 2, 0) + order(0, "says 1", 2, 0, 1));
        meet(x, 0, 1, 0);
        x = Check.told(LAND + order(0, "says 1", 0, 2, 0) + order(0, "says 1", 2, 0, 2));
        meet(x, 0, 1, 1);
    }

    private static void waitingIsNotOnIt() {
        Check.term("V", "each sets out on it");
        // 1 waits through 6 and sets out at 7; 0 has come by then, if it is sent at 3 or sooner
        SlowOrder x = Check.told(LAND + "flood 0 to 1 from 5 to 6;" + order(0, "says 1", 0, 1, 1) + order(0, "says 1", 1, 0, 5));
        Check.due("waits", x.comes(1), 11);
        meet(x, 0, 1, 0);
        x.sends(0, 3);
        Check.due("comes as the other sets out", x.comes(0), 7);
        meet(x, 0, 1, 0);
        x.sends(0, 4);
        meet(x, 0, 1, 1);
        // both wait and set out at once
        x.sends(0, 6);
        meet(x, 0, 1, 1);
        // neither has a way: on none of its roads
        x = Check.told(LAND + order(0, "says 1", 0, 1, 0).replace(";", " via 1 3;") + order(0, "says 1", 1, 0, 0));
        meet(x, 0, 1, 0);
        Check.due("pairs", x.cross(), 0);
    }

    private static void beyondTheLastHour() {
        Check.term("V", "beyond the last HOUR, too");
        SlowOrder x = Check.told(LAND + order(0, "says 1", 0, 2, 19) + order(0, "says 1", 2, 0, 19));
        // 0 is on the first road till 23, then on the second till 26; 1 on the second till 22, then on the first till 26
        meet(x, 0, 1, 1);
        x = Check.told(LAND + order(1, "says 1", 0, 2, 19) + order(1, "says 1", 1, 0, 19) + order(0, "says 1", 2, 1, 19)
            + order(1, "says 1", 2, 1, 19).replace(";", " via 1 2;"));
        meet(x, 0, 1, 1);
        // 0 sets out on the second road at 28; 2 is there at 22, 3 comes back at 26 and once more at 33 to 39
        meet(x, 0, 2, 0);
        meet(x, 0, 3, 1);
    }

    private static void eachPairOnce() {
        Check.promise(31, "each pair once");
        SlowOrder x = Check.told(LAND + order(0, "says 1", 0, 1, 0).replace(";", " via 1 0;")
            + order(0, "says 1", 1, 0, 0).replace(";", " via 0 1;"));
        Check.due("three times by one another", x.cross(), 1);
        StringBuilder s = new StringBuilder(LAND);
        for (int o = 0; o < 10; o++) {
            s.append(order(0, "says 1", o % 2, 1 - o % 2, 0));
        }
        Check.due("five by five", Check.told(s.toString()).cross(), 25);
        Check.due("no orders", Check.told(LAND).cross(), 0);
        Check.due("one order", Check.told(LAND + order(0, "says 1", 0, 1, 0)).cross(), 0);
        Check.promise(31, "-2: there is no REALM");
        SlowOrder none = new SlowOrder();
        Check.due("no realm", none.cross(), -2);
    }

    private static void noSuchMeeting() {
        Check.promise(32, "-2: there are none such, one twice");
        SlowOrder x = Check.told(LAND + order(0, "says 1", 0, 1, 0) + order(0, "says 1", 1, 0, 0));
        int[] bad = {2, 9, 10, -1, MOST, LEAST};
        for (int o : bad) {
            meet(x, 0, o, -2);
            meet(x, 1, o, -2);
            Check.due("meets(" + o + ", " + o + ")", x.meets(o, o), -2);
        }
        Check.due("one twice", x.meets(0, 0), -2);
        Check.due("one twice", x.meets(1, 1), -2);
    }

    // ---- promise 33 ----

    private static void forgedFirst() {
        Check.promise(33, "the HOUR in which its RIDER is told to have come to it (first): how many are not so");
        // 0 to 1 at 10, rests, to 2 at 17, rests, back to 1 at 24
        SlowOrder x = Check.told(LAND.replace("hours 20", "hours 30") + order(1, "says 1", 0, 1, 2).replace(";", " via 2;"));
        Check.row(x, 0, 0, 0, 0, 2, 0, 1, 10, 0, 2, 17);
        Check.due("all so", x.forged(0), 0);
        Check.row(x, 0, 0, 0, 1, 24);
        Check.due("not the second time", x.forged(0), 1);
        Check.row(x, 0, 0, 0, 1, 11, 0, 1, 9, 0, 2, 16, 0, 2, 18, 0, 0, 1, 0, 0, 3, 0, 0, 2);
        Check.due("an HOUR off", x.forged(0), 6);
        // he waits for a flood where he is sent from: there he has come at once
        x = Check.told(LAND + "flood 0 to 1 from 0 to 5;" + order(0, "says 1", 0, 1, 2));
        Check.row(x, 0, 0, 0, 0, 2, 0, 0, 6, 0, 1, 10);
        Check.due("setting out is not coming", x.forged(0), 1);
        x.sends(0, 3);
        Check.due("his HOUR now", x.forged(0), 2);
        Check.row(x, 0, 0);
        Check.due("an empty book", x.forged(0), 0);
        // twenty lines at most
        long[] full = new long[60];
        for (int i = 0; i < 60; i += 3) {
            full[i + 2] = i < 30 ? 3 : 4;
        }
        Check.row(x, 0, 0, full);
        Check.due("a full book", x.forged(0), 10);
    }

    private static void forgedNotSo() {
        Check.promise(33, "beyond HOURS, or not at all: not so");
        SlowOrder x = Check.told(LAND + order(0, "says 1", 0, 1, 15) + order(0, "says 1", 0, 1, 16)
            + order(0, "says 1", 0, 3, 5) + order(0, "says 1", 2, 1, 0));
        Check.row(x, 0, 0, 0, 1, 19);
        Check.due("in the last HOUR", x.forged(0), 0);
        Check.row(x, 0, 0, 1, 1, 20);
        Check.due("one behind it, though told so", x.forged(0), 1);
        Check.row(x, 0, 0, 1, 0, 16);
        Check.due("where he was sent from he was", x.forged(0), 0);
        Check.row(x, 0, 0, 2, 0, 5, 2, 3, 9, 2, 0, -1, 2, 3, -1);
        Check.due("no way: not at all", x.forged(0), 4);
        Check.row(x, 0, 0, 3, 0, 3, 3, 0, -1, 3, 3, 0, 3, 3, -1);
        Check.due("never there", x.forged(0), 4);
        Check.row(x, 1, 3, 0, 1, 19L + (1L << 32), 0, 1, 19L - (1L << 32), 0, 1, Long.MIN_VALUE, 0, 1, Long.MAX_VALUE);
        Check.due("no HOURS at all", x.forged(1), 4);
    }

    private static void noSuchBook() {
        Check.promise(33, "-2: there is no such SLOT, no REALM");
        SlowOrder x = new SlowOrder();
        Check.due("no realm, and it has nothing", x.forged(0), -2);
        Check.row(x, 0, 0);
        Check.due("no realm", x.forged(0), -2);
        Check.tell(x, LAND + order(0, "says 1", 0, 1, 0));
        int[] bad = {4, 5, -1, MOST, LEAST};
        for (int slot : bad) {
            Check.due("forged(" + slot + ")", x.forged(slot), -2);
        }
        Check.promise(33, "-6: it has nothing");
        for (int slot = 1; slot < 4; slot++) {
            Check.due("forged(" + slot + ")", x.forged(slot), -6);
        }
        Check.due("an empty row is something", x.forged(0), 0);
        SlowOrder without = Check.told(LAND);
        Check.row(without, 0, 0);
        Check.due("an empty row, without orders", without.forged(0), 0);
        without.row(0, 0, 3);
        Check.due("without orders", without.forged(0), -2);
        Check.promise(33, "not three each");
        for (int n = 0; n <= 60; n++) {
            // all 0: 0 was sent from 0 at 0
            x.row(2, 0, n);
            Check.due("of " + n, x.forged(2), n % 3 == 0 ? 0 : -2);
        }
        Check.promise(33, "an ORDER, a TOWN is not so (asked last)");
        long[] orders = {1, 9, -1, 127};
        for (long o : orders) {
            Check.row(x, 1, 0, 0, 0, 0, o, 0, 0);
            Check.due("order " + o, x.forged(1), -2);
        }
        long[] towns = {4, 8, -1, 127};
        for (long t : towns) {
            Check.row(x, 1, 0, 0, 0, 7, 0, t, 0);
            Check.due("town " + t, x.forged(1), -2);
        }
        Check.row(x, 1, 3, 1L << 32, 0, 0);
        Check.due("an order far beyond", x.forged(1), -2);
        Check.row(x, 1, 3, 0, 1L << 32, 0);
        Check.due("a town far beyond", x.forged(1), -2);
        Check.row(x, 1, 0, 0, 3, 0);
        Check.due("the last town", x.forged(1), 1);
    }

    // ---- promises 34 to 36 ----

    private static void agreeing() {
        Check.promise(34, "at how many HOURS (0 .. hours less 1) an ORDER may have been sent so that all is so");
        SlowOrder x = Check.told(LAND + order(0, "says 5", 0, 1, 7) + order(0, "undoes 0", 0, 1, 7));
        Check.row(x, 0, 0);
        Check.due("nothing seen", x.agree(0, 0), 20);
        Check.due("nothing seen, one that undoes", x.agree(0, 1), 20);
        Check.promise(35, "The i-th of these HOURS");
        Check.due("the first HOUR", x.when(0, 0, 0), 0);
        Check.due("the last HOUR", x.when(0, 0, 19), 19);
        Check.promise(34, "what HELD (NONE: nothing)");
        // 0 comes four HOURS behind, and is undone from 11 on
        Check.row(x, 0, 0, 1, 0, 4, 5);
        Check.due("at 0 alone", x.agree(0, 0), 1);
        Check.due("at 0 alone", x.when(0, 0, 0), 0);
        Check.row(x, 0, 0, 1, 0, 4, -1);
        Check.due("at all others", x.agree(0, 0), 19);
        Check.due("from 1 on", x.when(0, 0, 0), 1);
        Check.row(x, 0, 0, 1, 0, 10, 5, 1, 0, 9, -1);
        Check.due("at 6 alone", x.agree(0, 0), 1);
        Check.due("at 6 alone", x.when(0, 0, 0), 6);
        Check.row(x, 0, 0, 1, 0, 11, -1);
        Check.due("at any", x.agree(0, 0), 20);
        Check.row(x, 0, 0, 1, 0, 19, 5);
        Check.due("at none", x.agree(0, 0), 0);
        Check.due("if it undid later", x.agree(0, 1), 4);
        Check.due("from 16 on it never comes", x.when(0, 1, 0), 16);
        Check.row(x, 0, 0, 1, 0, 10, 5, 1, 0, 10, -1);
        Check.due("both can't be", x.agree(0, 0), 0);
        Check.due("in thought alone", x.order(0, 6), 7);
        x.seal(3);
        Check.row(x, 0, 0, 1, 0, 19, -1);
        Check.due("sealed", x.agree(0, 0), 20);
    }

    private static void heldMayBeAny() {
        Check.promise(34, "what HELD may be any");
        SlowOrder x = Check.told(LAND + order(0, "says 5", 0, 1, 7));
        long[] any = {0, 9, 10, 77, 127, -2, -128};
        for (long held : any) {
            Check.row(x, 0, 0, 1, 0, 19, held);
            Check.due("held " + held, x.agree(0, 0), 0);
            Check.due("held " + held, x.when(0, 0, 0), -1);
            Check.due("held " + held, x.sure(0, 0, 1, 0, 19), -5);
        }
        long[] wide = {5 + (1L << 32), -1 + (1L << 32), Long.MAX_VALUE, Long.MIN_VALUE, 5 + (1L << 63)};
        for (long held : wide) {
            Check.row(x, 1, 3, 1, 0, 19, held);
            Check.due("held " + held, x.agree(1, 0), 0);
        }
        // cut to their WIDTH they are 5, and nothing
        for (int width = 0; width < 3; width++) {
            Check.row(x, 2, width, 1, 0, 19, 5 + (1L << 32), 1, 0, 3, -1 + (1L << 40));
            Check.due("width " + width, x.agree(2, 0), 16);
        }
    }

    private static void whenNotSoMany() {
        Check.promise(35, "NONE: there are not so many");
        SlowOrder x = Check.told(LAND + order(0, "says 5", 0, 1, 7));
        Check.row(x, 0, 0, 1, 0, 6, 5);
        for (int i = 0; i < 3; i++) {
            Check.due("when(0, 0, " + i + ")", x.when(0, 0, i), i);
        }
        int[] beyond = {3, 4, 19, 20, 98, 99, -1, MOST, LEAST};
        for (int i : beyond) {
            Check.due("when(0, 0, " + i + ")", x.when(0, 0, i), -1);
        }
        Check.row(x, 0, 0);
        Check.due("the twentieth", x.when(0, 0, 19), 19);
        Check.due("no more", x.when(0, 0, 20), -1);
        x = Check.told("realm towns 2 hours 99;rider pace 1 rests 0;" + order(0, "says 5", 0, 1, 7));
        Check.row(x, 0, 0);
        Check.due("the last of most", x.when(0, 0, 98), 98);
        Check.due("no more", x.when(0, 0, 99), -1);
    }

    private static void sure() {
        Check.promise(36, "What HOLDS in a TOWN about a THING at an HOUR by all of them");
        SlowOrder x = Check.told(LAND + order(0, "says 5", 0, 1, 7) + order(0, "says 6", 2, 1, 9));
        // 1 comes at 12; 0 was there by 8
        Check.row(x, 0, 0, 1, 0, 8, 5);
        Check.due("from the last of them on", x.sure(0, 0, 1, 0, 8), 5);
        Check.due("till the other comes", x.sure(0, 0, 1, 0, 11), 5);
        Check.due("the other's", x.sure(0, 0, 1, 0, 12), 6);
        Check.promise(36, "-5: not the same by all, there are none");
        Check.due("one HOUR ahead", x.sure(0, 0, 1, 0, 7), -5);
        Check.due("as the first of them comes", x.sure(0, 0, 1, 0, 4), -5);
        Check.promise(36, "NONE: nothing by all");
        Check.due("ahead of the first of them", x.sure(0, 0, 1, 0, 3), -1);
        Check.due("elsewhere", x.sure(0, 0, 2, 0, 19), -1);
        Check.due("about another THING", x.sure(0, 0, 1, 1, 19), -1);
        Check.promise(36, "there are none");
        Check.row(x, 0, 0, 1, 0, 8, 7);
        Check.due("not even of nothing", x.sure(0, 0, 2, 0, 19), -5);
        Check.due("nor of what the other says", x.sure(0, 0, 1, 0, 19), -5);
        // by one alone
        Check.row(x, 0, 0, 1, 0, 8, 5, 1, 0, 7, -1);
        Check.due("one alone", x.agree(0, 0), 1);
        Check.due("one alone", x.sure(0, 0, 1, 0, 8), 5);
        Check.due("one alone", x.sure(0, 0, 1, 0, 7), -1);
        // by two: at 3, from 7 on, and at 4, from 8 on
        Check.row(x, 0, 0, 1, 0, 6, -1, 1, 0, 8, 5);
        Check.due("two", x.agree(0, 0), 2);
        Check.due("by both", x.sure(0, 0, 1, 0, 8), 5);
        Check.due("by neither", x.sure(0, 0, 1, 0, 6), -1);
        Check.due("by the first alone", x.sure(0, 0, 1, 0, 7), -5);
        // unlike in the last of them alone
        Check.row(x, 0, 0, 1, 0, 12, 6);
        Check.due("till 8", x.agree(0, 0), 20 - 8 + 8);
        Check.row(x, 0, 0, 1, 0, 13, 6);
        Check.due("all but 9", x.agree(0, 0), 19);
        Check.due("not by all", x.sure(0, 0, 1, 0, 19), -5);
    }

    private static void sureAheadOf() {
        Check.term("VI", "-2 comes ahead of -5, where both fit and nothing else is told");
        SlowOrder x = Check.told(LAND + order(0, "says 5", 0, 1, 7));
        Check.row(x, 0, 0, 1, 0, 8, 7);
        Check.due("there are none", x.sure(0, 0, 1, 0, 19), -5);
        int[][] bad = {{4, 0, 0}, {8, 0, 0}, {-1, 0, 0}, {MOST, 0, 0}, {LEAST, 0, 0}, {0, 3, 0}, {0, -1, 0}, {0, MOST, 0},
            {0, LEAST, 0}, {0, 0, 20}, {0, 0, -1}, {0, 0, MOST}, {0, 0, LEAST}};
        for (int[] b : bad) {
            String at = b[0] + ", " + b[1] + ", " + b[2] + ")";
            Check.due("none agree: sure(0, 0, " + at, x.sure(0, 0, b[0], b[1], b[2]), -2);
        }
        Check.promise(36, "-2, -6 likewise, none such");
        Check.row(x, 0, 0);
        Check.due("the greatest", x.sure(0, 0, 3, 2, 19), -1);
        for (int[] b : bad) {
            String at = b[0] + ", " + b[1] + ", " + b[2] + ")";
            Check.due("all agree: sure(0, 0, " + at, x.sure(0, 0, b[0], b[1], b[2]), -2);
        }
    }

    private static void seenIs(SlowOrder x, int slot, int order, int due) {
        String at = "(" + slot + ", " + order;
        Check.promise(34, "not four each; -6: it has nothing");
        Check.due("agree" + at + ")", x.agree(slot, order), due);
        Check.promise(35, "-2, -6 likewise");
        Check.due("when" + at + ", 0)", x.when(slot, order, 0), due);
        Check.due("when" + at + ", -1)", x.when(slot, order, -1), due);
        Check.due("when" + at + ", 99)", x.when(slot, order, 99), due);
        Check.promise(36, "-2, -6 likewise, none such");
        Check.due("sure" + at + ", 0, 0, 0)", x.sure(slot, order, 0, 0, 0), due);
    }

    private static void noSuchSeen() {
        SlowOrder x = new SlowOrder();
        seenIs(x, 0, 0, -2);
        Check.row(x, 0, 0);
        seenIs(x, 0, 0, -2);
        Check.tell(x, LAND + order(0, "says 5", 0, 1, 7) + order(0, "undoes 0", 0, 1, 7));
        int[] bad = {4, 5, -1, MOST, LEAST};
        for (int slot : bad) {
            seenIs(x, slot, 0, -2);
        }
        int[] badOrder = {2, 9, 10, -1, MOST, LEAST};
        for (int o : badOrder) {
            seenIs(x, 0, o, -2);
            seenIs(x, 1, o, -2);
        }
        for (int slot = 1; slot < 4; slot++) {
            seenIs(x, slot, 0, -6);
            seenIs(x, slot, 1, -6);
        }
        Check.due("an empty row is something", x.agree(0, 1), 20);
    }

    private static void notFourEach() {
        Check.promise(34, "not four each");
        SlowOrder x = Check.told(LAND + order(0, "says 5", 0, 1, 7));
        for (int n = 0; n <= 60; n++) {
            x.row(0, 0, n);
            Check.due("of " + n, x.agree(0, 0), n % 4 != 0 ? -2 : n == 0 ? 20 : 0);
        }
        int[] unlike = {1, 2, 3, 5, 6, 7, 58, 59};
        for (int n : unlike) {
            x.row(0, 0, n);
            seenIs(x, 0, 0, -2);
        }
    }

    private static void badNumbers() {
        SlowOrder x = Check.told(LAND + order(0, "says 5", 0, 1, 7));
        long far = 1L << 32;
        long[][] bad = {{4, 0, 0}, {8, 0, 0}, {-1, 0, 0}, {far, 0, 0}, {0, 3, 0}, {0, -1, 0}, {0, far, 0}, {0, 0, 20},
            {0, 0, 99}, {0, 0, -1}, {0, 0, far}};
        for (long[] b : bad) {
            // behind a line that is so, and behind one that can't be so
            Check.row(x, 0, 3, 0, 0, 0, -1, b[0], b[1], b[2], -1);
            seenIs(x, 0, 0, -2);
            Check.row(x, 0, 3, 0, 0, 0, 9, b[0], b[1], b[2], -1);
            seenIs(x, 0, 0, -2);
        }
        Check.row(x, 0, 3, 3, 2, 19, -1);
        Check.promise(34, "a number is not so");
        Check.due("the greatest", x.agree(0, 0), 20);
    }

    // ---- promise 37 ----

    private static void matters() {
        Check.promise(37, "1, if without it something else HOLDS in some TOWN at some HOUR; else 0");
        SlowOrder x = Check.told(LAND + order(0, "says 5", 0, 1, 15) + order(0, "says 5", 0, 1, 16));
        Check.due("in the last HOUR alone", x.matters(0), 1);
        Check.due("it never comes", x.matters(1), 0);
        x.sends(1, 15);
        Check.due("another says the same at once", x.matters(0), 0);
        Check.due("another says the same at once", x.matters(1), 0);
        x.sends(1, 14);
        Check.due("another said it ahead", x.matters(0), 0);
        Check.due("the first to say it", x.matters(1), 1);
        x.seal(18);
        Check.due("sealed", x.matters(0), 0);
        x.seal(17);
        Check.due("sealed both", x.matters(1), 0);
        x = Check.told(LAND + order(0, "says 5", 0, 1, 0) + order(0, "says 6", 0, 1, 0));
        Check.due("of one HOUR the lesser number", x.matters(0), 0);
        Check.due("of one HOUR the greater number", x.matters(1), 1);
        // about the last THING, in the last TOWN
        x = Check.told("realm towns 8 hours 5;road 6 to 7 hours 1;rider pace 1 rests 0;"
            + order(0, "says 0", 6, 7, 3).replace("on 0", "on 2"));
        Check.due("the last of all", x.matters(0), 1);
    }

    private static void mattersByNothing() {
        Check.promise(37, "without it something else HOLDS");
        SlowOrder x = Check.told(LAND + order(0, "says 5", 0, 1, 0).replace("on 0", "on 1") + order(0, "undoes 0", 0, 1, 0)
            + order(0, "undoes 1", 0, 1, 15));
        Check.due("what never held", x.matters(0), 1);
        Check.due("what undid it", x.matters(1), 1);
        Check.due("what undid that", x.matters(2), 1);
        x = Check.told(LAND + order(0, "says 5", 0, 1, 0) + order(0, "undoes 0", 0, 1, 0));
        Check.due("it is undone at once", x.matters(0), 0);
        Check.due("without what undoes it, it would hold", x.matters(1), 1);
        x = Check.told(LAND + order(0, "says 5", 0, 1, 0) + order(0, "undoes 0", 1, 2, 0));
        Check.due("undoing elsewhere", x.matters(1), 0);
    }

    private static void noSuchMatter() {
        Check.promise(37, "-2: there is none such");
        SlowOrder x = Check.told(LAND + order(0, "says 5", 0, 1, 0));
        int[] bad = {1, 9, 10, -1, MOST, LEAST};
        for (int o : bad) {
            Check.due("matters(" + o + ")", x.matters(o), -2);
        }
        Check.due("no realm", new SlowOrder().matters(0), -2);
    }
}
