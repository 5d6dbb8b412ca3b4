/** Promises 27 to 30 and the WISH of Term IV: the sentences that name a boundary case. */
final class WishEdges {
    private static final String LAND = "realm towns 3 hours 20;road 0 to 1 hours 2;road 1 to 2 hours 2;"
        + "rider pace 1 rests 0;";
    private static final String SMALL = "realm towns 2 hours 5;road 0 to 1 hours 1;rider pace 1 rests 0;";
    private static final int MOST = Integer.MAX_VALUE;
    private static final int LEAST = Integer.MIN_VALUE;

    private WishEdges() {
    }

    static void all() {
        had();
        hadByWhomever();
        noSuchWish();
        allRest();
        restFirst();
        restAtAnotherHour();
        tenOrders();
        restsCount();
        restsAtMost();
        firstHour();
        sentBehind();
        noSuchRests();
    }

    private static String says(int thing, int says, int to, int hour) {
        return "order rider 0 on " + thing + " says " + says + " from " + (to == 0 ? 1 : 0) + " to " + to + " at " + hour + ";";
    }

    private static String wish(int order, int says, int town, int hour) {
        return "wish " + order + " says " + says + " in " + town + " at " + hour + ";";
    }

    // ---- promise 27 ----

    private static void had() {
        Check.promise(27, "Whether an ORDER's WISH is had: 1, 0; NONE: it has none");
        String land = LAND + says(0, 5, 1, 0);
        Check.due("none", Check.told(land).wish(0), -1);
        Check.due("as it comes", Check.told(land + wish(0, 5, 1, 2)).wish(0), 1);
        Check.due("ahead of it", Check.told(land + wish(0, 5, 1, 1)).wish(0), 0);
        Check.due("in the last HOUR", Check.told(land + wish(0, 5, 1, 19)).wish(0), 1);
        Check.due("in the first HOUR", Check.told(land + wish(0, 5, 1, 0)).wish(0), 0);
        Check.due("something else", Check.told(land + wish(0, 4, 1, 19)).wish(0), 0);
        Check.due("elsewhere", Check.told(land + wish(0, 5, 2, 19)).wish(0), 0);
        SlowOrder x = Check.told(land + "order rider 0 on 0 undoes 0 from 0 to 1 at 4;" + wish(0, 5, 1, 6));
        Check.due("undone", x.wish(0), 0);
        Check.due("one that undoes has none", x.wish(1), -1);
        x.sends(1, 5);
        Check.due("not yet undone", x.wish(0), 1);
        x.seal(1);
        Check.due("sealed", x.wish(0), 0);
        x.seal(2);
        Check.due("no later than the seal", x.wish(0), 1);
        Check.due("0 is not nothing", Check.told(land + wish(0, 0, 1, 0)).wish(0), 0);
    }

    private static void hadByWhomever() {
        Check.term("IV", "A WISH is had if what it says HOLDS about its ORDER's THING in its TOWN at its HOUR");
        SlowOrder x = Check.told(LAND + says(1, 5, 1, 0) + says(0, 6, 1, 0) + says(2, 7, 1, 0) + says(1, 8, 2, 0)
            + wish(0, 6, 1, 9) + wish(1, 6, 1, 9) + wish(2, 5, 1, 9) + wish(3, 5, 1, 9));
        Check.due("about another THING", x.wish(0), 0);
        Check.due("about its own", x.wish(1), 1);
        Check.due("about another THING", x.wish(2), 0);
        Check.due("said by another about its own, elsewhere than it comes", x.wish(3), 1);
    }

    private static void noSuchWish() {
        Check.promise(27, "-2: there is none such");
        SlowOrder x = Check.told(LAND + says(0, 5, 1, 0));
        int[] bad = {1, 9, 10, -1, MOST, LEAST};
        for (int o : bad) {
            Check.due("wish(" + o + ")", x.wish(o), -2);
        }
        Check.due("no realm", new SlowOrder().wish(0), -2);
    }

    // ---- promise 28 ----

    private static void allRest() {
        Check.promise(28, "NONE: none, all rest");
        Check.due("no orders", Check.told(LAND).rest(), -1);
        Check.due("no wishes", Check.told(LAND + says(0, 5, 1, 0)).rest(), -1);
        Check.due("had", Check.told(LAND + says(0, 5, 1, 0) + wish(0, 5, 1, 19)).rest(), -1);
        Check.due("never had", Check.told(LAND + says(0, 5, 1, 9) + wish(0, 5, 1, 1)).rest(), -1);
        Check.due("never had", Check.told(LAND + says(0, 5, 1, 9) + wish(0, 6, 1, 19)).rest(), -1);
        Check.promise(28, "-2: there is no REALM");
        SlowOrder x = new SlowOrder();
        Check.due("no realm", x.rest(), -2);
        Check.tell(x, LAND);
        Check.due("a realm", x.rest(), -1);
        x.realm();
        Check.due("none any more", x.rest(), -2);
    }

    private static void restFirst() {
        Check.promise(28, "the first ORDER with a WISH that is not had, but would be");
        // 0 has none, 1 has it, 2 never could, 3 and 4 could; 4's is told first
        SlowOrder x = Check.told(LAND + says(0, 5, 1, 0) + says(1, 5, 1, 0) + says(2, 5, 1, 9) + says(0, 5, 2, 9)
            + says(1, 5, 2, 9) + wish(4, 5, 2, 8) + wish(3, 5, 2, 8) + wish(2, 5, 1, 1) + wish(1, 5, 1, 8));
        Check.due("3", x.rest(), 3);
        x.sends(3, 4);
        Check.due("4", x.rest(), 4);
        x.sends(4, 4);
        Check.due("all rest", x.rest(), -1);
        x.sends(1, 7);
        Check.due("1", x.rest(), 1);
        // the tenth alone
        x = Check.told(LAND + says(0, 5, 1, 9).repeat(9) + says(0, 6, 1, 9) + wish(9, 6, 1, 8));
        Check.due("the last one", x.rest(), 9);
    }

    private static void restAtAnotherHour() {
        Check.promise(28, "if it were sent at another HOUR");
        // only at the first HOUR, and only at the last one
        SlowOrder x = Check.told(LAND + says(0, 5, 1, 3) + wish(0, 5, 1, 2));
        Check.due("at 0 alone", x.rest(), 0);
        Check.due("at 0 alone", x.sent(0, 1), 0);
        x = Check.told(SMALL + says(0, 5, 1, 0) + says(0, 6, 1, 0) + wish(1, 5, 1, 4));
        Check.due("at 4 alone", x.rest(), 1);
        Check.due("at 4 alone", x.sent(1, 1), 4);
        Check.due("how many times", x.rests(1), 1);
        x.sends(1, 3);
        Check.due("in the last HOUR still", x.wish(1), 0);
        x.sends(1, 4);
        Check.due("not any more", x.wish(1), 1);
        Check.due("all rest", x.rest(), -1);
    }

    private static void tenOrders() {
        Check.promise(29, "n (0 .. 50) times (in thought) that ORDER is sent");
        StringBuilder s = new StringBuilder(SMALL.replace("hours 5", "hours 99"));
        for (int o = 0; o < 10; o++) {
            s.append(says(0, o, 1, 10 + o));
        }
        for (int o = 0; o < 10; o++) {
            s.append(wish(o, o, 1, 11 + o));
        }
        SlowOrder x = Check.told(s.toString());
        Check.due("all have what they wish", x.rest(), -1);
        Check.due("all rest", x.rests(50), 0);
        for (int o = 0; o < 10; o++) {
            Check.due("wish(" + o + ")", x.wish(o), 1);
            Check.due("sent(" + o + ", 50)", x.sent(o, 50), 10 + o);
        }
        x.sends(9, 98);
        Check.due("the last one", x.rest(), 9);
        Check.due("by once", x.rests(50), 1);
        Check.due("of one HOUR with the one ahead", x.sent(9, 50), 18);
    }

    // ---- promises 29 and 30 ----

    /** Both want the last word in town 1 at 10: 0 goes to 4, 1 to 4, 0 to 5, and so on, till 1 goes to 8. */
    private static final String TWO = LAND + says(0, 5, 1, 0) + says(0, 6, 1, 3) + wish(0, 5, 1, 10) + wish(1, 6, 1, 10);

    private static void restsCount() {
        Check.promise(29, "how many times till all rest; NONE: they do not");
        SlowOrder x = Check.told(TWO);
        for (int n = 0; n < 10; n++) {
            Check.due("rests(" + n + ")", x.rests(n), -1);
        }
        int[] enough = {10, 11, 49, 50};
        for (int n : enough) {
            Check.due("rests(" + n + ")", x.rests(n), 10);
        }
        Check.promise(29, "in thought");
        Check.due("order 0", x.order(0, 6), 0);
        Check.due("order 1", x.order(1, 6), 3);
        Check.due("rest", x.rest(), 0);
        Check.promise(29, "n (0 .. 50) times");
        Check.due("all rest at once", Check.told(LAND).rests(0), 0);
        Check.due("all rest at once", Check.told(LAND).rests(50), 0);
        x = Check.told(LAND + says(0, 5, 1, 9) + wish(0, 5, 1, 8));
        Check.due("not without", x.rests(0), -1);
        Check.due("by once", x.rests(1), 1);
        Check.due("by once", x.rests(2), 1);
    }

    private static void restsAtMost() {
        Check.promise(29, "n (0 .. 50) times");
        // as above, but till the 98th HOUR: more than fifty times
        SlowOrder x = Check.told(TWO.replace("hours 20", "hours 99").replace("at 10", "at 98"));
        Check.due("not by fifty", x.rests(50), -1);
        Check.promise(30, "The HOUR of an ORDER behind these (or behind all n)");
        Check.due("0 behind fifty", x.sent(0, 50), 28);
        Check.due("1 behind fifty", x.sent(1, 50), 28);
        Check.due("0 behind forty-nine", x.sent(0, 49), 28);
        Check.due("1 behind forty-nine", x.sent(1, 49), 27);
        // just fifty: the 49th sends 0 to 28, the 50th 1 to 28, where it comes at 30
        x = Check.told(TWO.replace("hours 20", "hours 99").replace("at 10", "at 30"));
        Check.promise(29, "how many times till all rest");
        Check.due("by fifty", x.rests(50), 50);
        Check.due("not by forty-nine", x.rests(49), -1);
    }

    private static void firstHour() {
        Check.promise(29, "that ORDER is sent at the first HOUR by which it would be had");
        SlowOrder x = Check.told(LAND + says(0, 5, 1, 19) + wish(0, 5, 1, 19));
        Check.due("0, though any till 17 would do", x.sent(0, 1), 0);
        // ahead of 1, or by the greater number of one HOUR
        x = Check.told(LAND + says(0, 5, 1, 3) + says(0, 6, 1, 19) + wish(1, 6, 1, 19));
        Check.due("of one HOUR with 0", x.sent(1, 1), 3);
        x = Check.told(LAND + says(0, 6, 1, 19) + says(0, 5, 1, 3) + wish(0, 6, 1, 19));
        Check.due("one behind 1", x.sent(0, 1), 4);
        Check.due("1 stays", x.sent(1, 1), 3);
    }

    private static void sentBehind() {
        SlowOrder x = Check.told(TWO);
        int[] first = {0, 4, 4, 5, 5, 6, 6, 7, 7, 8, 8, 8, 8};
        int[] second = {3, 3, 4, 4, 5, 5, 6, 6, 7, 7, 8, 8, 8};
        Check.promise(30, "The HOUR of an ORDER behind these (or behind all n)");
        for (int n = 0; n < first.length; n++) {
            Check.due("sent(0, " + n + ")", x.sent(0, n), first[n]);
            Check.due("sent(1, " + n + ")", x.sent(1, n), second[n]);
        }
        Check.due("sent(0, 50)", x.sent(0, 50), 8);
        Check.due("sent(1, 50)", x.sent(1, 50), 8);
        x.sends(0, 6);
        Check.due("behind none: its HOUR now", x.sent(0, 0), 6);
        x = Check.told(LAND + says(0, 5, 1, 7) + "order rider 0 on 0 undoes 0 from 0 to 1 at 4;");
        Check.due("one without a wish", x.sent(0, 50), 7);
        Check.due("one that undoes", x.sent(1, 50), 4);
    }

    private static void noSuchRests() {
        SlowOrder x = Check.told(TWO);
        SlowOrder none = new SlowOrder();
        int[] bad = {51, 100, -1, MOST, LEAST};
        for (int n : bad) {
            Check.promise(29, "-2: there is none such, no REALM");
            Check.due("rests(" + n + ")", x.rests(n), -2);
            Check.due("no realm, rests(" + n + ")", none.rests(n), -2);
            Check.promise(30, "-2 likewise, no such ORDER");
            Check.due("sent(0, " + n + ")", x.sent(0, n), -2);
            Check.due("no realm, sent(0, " + n + ")", none.sent(0, n), -2);
        }
        int[] badOrder = {2, 9, 10, -1, MOST, LEAST};
        for (int o : badOrder) {
            Check.due("sent(" + o + ", 0)", x.sent(o, 0), -2);
            Check.due("sent(" + o + ", 50)", x.sent(o, 50), -2);
        }
        Check.promise(29, "-2: there is none such, no REALM");
        Check.due("no realm", none.rests(0), -2);
        Check.due("no realm", none.rests(50), -2);
    }
}
