/** Promises 12 to 19 and Term III: the sentences that name a boundary case. */
final class HoldEdges {
    // 0 - 1 - 2 in a row, three hours each; the second rider takes twice as long
    private static final String LAND = "realm towns 3 hours 20;road 0 to 1 hours 3;road 1 to 2 hours 3;"
        + "rider pace 1 rests 0;rider pace 2 rests 0;";
    private static final int MOST = Integer.MAX_VALUE;
    private static final int LEAST = Integer.MIN_VALUE;

    private HoldEdges() {
    }

    static void all() {
        byThen();
        sealedThen();
        nothing();
        undoesOfAnyThing();
        bothThere();
        itselfNotUndone();
        latestToCome();
        oneHour();
        noSuchAsked();
        undoneBits();
        noSuchUndone();
        changes();
        noSuchChanges();
        discord();
        nothingAlone();
        peace();
        just();
        noSuchThing();
        seal();
        noSuchSeal();
    }

    private static String says(int rider, int thing, int says, int from, int to, int hour) {
        return "order rider " + rider + " on " + thing + " says " + says + " from " + from + " to " + to
            + " at " + hour + ";";
    }

    private static String undoes(int rider, int thing, int undoes, int from, int to, int hour) {
        return says(rider, thing, undoes, from, to, hour).replace("says", "undoes");
    }

    private static void held(SlowOrder x, int town, int thing, int hour, int says, int whose) {
        Check.due("holds(" + town + ", " + thing + ", " + hour + ")", x.holds(town, thing, hour), says);
        Check.due("whose(" + town + ", " + thing + ", " + hour + ")", x.whose(town, thing, hour), whose);
    }

    // ---- Term III ----

    private static void byThen() {
        Check.term("III", "the ORDERS that have COME there by then");
        SlowOrder x = Check.told(LAND + says(0, 0, 4, 0, 1, 5) + says(0, 1, 5, 0, 1, 16) + says(0, 2, 6, 0, 1, 17));
        held(x, 1, 0, 7, -1, -1);
        held(x, 1, 0, 8, 4, 0);
        held(x, 1, 0, 9, 4, 0);
        held(x, 1, 0, 19, 4, 0);
        held(x, 1, 1, 18, -1, -1);
        held(x, 1, 1, 19, 5, 1);
        held(x, 1, 2, 19, -1, -1);
        held(x, 0, 0, 19, -1, -1);
        held(x, 2, 0, 19, -1, -1);
        // who goes by a TOWN has not come there
        x = Check.told(LAND + says(0, 0, 4, 0, 2, 0));
        held(x, 1, 0, 19, -1, -1);
        held(x, 2, 0, 6, 4, 0);
    }

    private static void sealedThen() {
        Check.term("III", "no later than the seal");
        String land = LAND + says(0, 0, 4, 0, 1, 5) + says(0, 0, 5, 0, 1, 7) + undoes(0, 0, 1, 0, 1, 9);
        int[] heldThen = {-1, 4, 4, 5, 5, 4, 4};
        for (int seal = 7; seal <= 13; seal++) {
            SlowOrder x = Check.told(land + "seal " + seal + ";");
            Check.due("told seal " + seal, x.holds(1, 0, 19), heldThen[seal - 7]);
            Check.due("undone behind seal " + seal, x.undone(1, 19), seal >= 12 ? 2 : 0);
        }
        SlowOrder x = Check.told(land + "seal 0;");
        held(x, 1, 0, 19, -1, -1);
        x = Check.told(land + "seal 99;");
        held(x, 1, 0, 19, 4, 0);
    }

    private static void nothing() {
        Check.term("III", "else nothing (NONE)");
        SlowOrder x = Check.told(LAND);
        for (int town = 0; town < 3; town++) {
            for (int thing = 0; thing < 3; thing++) {
                held(x, town, thing, 0, -1, -1);
                held(x, town, thing, 19, -1, -1);
            }
        }
        // those that undo say nothing, and one that says 0 says something
        x = Check.told(LAND + says(0, 0, 0, 0, 1, 0) + undoes(0, 0, 0, 0, 2, 0) + undoes(0, 0, 1, 0, 1, 3));
        held(x, 1, 0, 3, 0, 0);
        held(x, 1, 0, 19, 0, 0);
        held(x, 2, 0, 19, -1, -1);
    }

    private static void undoesOfAnyThing() {
        Check.term("III", "One that undoes another one (of whatever THING)");
        for (int thing = 0; thing < 3; thing++) {
            SlowOrder x = Check.told(LAND + says(0, 1, 4, 0, 1, 0) + undoes(0, thing, 0, 0, 1, 2));
            held(x, 1, 1, 4, 4, 0);
            held(x, 1, 1, 5, -1, -1);
            Check.due("undone", x.undone(1, 5), 1);
        }
    }

    private static void bothThere() {
        Check.term("III", "in that TOWN at that HOUR, if both are there");
        // it comes first, at once, behind, and to another TOWN
        SlowOrder x = Check.told(LAND + says(0, 0, 4, 0, 1, 5) + undoes(0, 0, 0, 0, 1, 2));
        Check.due("ahead of what it undoes", x.undone(1, 7), 0);
        Check.due("as that comes", x.undone(1, 8), 1);
        held(x, 1, 0, 8, -1, -1);
        x = Check.told(LAND + says(0, 0, 4, 0, 1, 5) + undoes(0, 0, 0, 0, 1, 5));
        Check.due("ahead", x.undone(1, 7), 0);
        Check.due("at once", x.undone(1, 8), 1);
        x = Check.told(LAND + says(0, 0, 4, 0, 1, 5) + undoes(0, 0, 0, 0, 1, 6));
        held(x, 1, 0, 8, 4, 0);
        held(x, 1, 0, 9, -1, -1);
        x = Check.told(LAND + says(0, 0, 4, 0, 1, 5) + undoes(0, 0, 0, 0, 2, 0) + undoes(0, 0, 0, 1, 0, 0));
        for (int town = 0; town < 3; town++) {
            Check.due("in town " + town, x.undone(town, 19), 0);
        }
        held(x, 1, 0, 19, 4, 0);
        x = Check.told(LAND + says(0, 0, 4, 0, 1, 5) + undoes(0, 0, 0, 0, 1, 17));
        Check.due("it never comes", x.undone(1, 19), 0);
    }

    private static void itselfNotUndone() {
        Check.term("III", "and it itself is not undone");
        // each undoes the one ahead of it and comes an HOUR behind
        StringBuilder s = new StringBuilder(LAND + says(0, 0, 4, 0, 1, 0));
        for (int o = 1; o < 10; o++) {
            s.append(undoes(0, o % 3, o - 1, 0, 1, o));
        }
        SlowOrder x = Check.told(s.toString());
        for (int hour = 3; hour < 20; hour++) {
            int last = Math.min(hour - 3, 9);
            int bits = 0;
            for (int o = last - 1; o >= 0; o -= 2) {
                bits |= 1 << o;
            }
            Check.due("undone(1, " + hour + ")", x.undone(1, hour), bits);
            held(x, 1, 0, hour, last % 2 == 0 ? 4 : -1, last % 2 == 0 ? 0 : -1);
        }
        // two undo one; one of them is undone
        x = Check.told(LAND + says(0, 0, 4, 0, 1, 0) + undoes(0, 0, 0, 0, 1, 1) + undoes(0, 0, 0, 0, 1, 2)
            + undoes(0, 0, 2, 0, 1, 3) + undoes(0, 0, 1, 0, 1, 4));
        int[] bits = {0, 0, 0, 0, 1, 1, 1 + 4, 4 + 2, 4 + 2};
        for (int hour = 0; hour < bits.length; hour++) {
            Check.due("two undo one: undone(1, " + hour + ")", x.undone(1, hour), bits[hour]);
        }
        held(x, 1, 0, 6, -1, -1);
        held(x, 1, 0, 7, 4, 0);
    }

    private static void latestToCome() {
        Check.term("III", "What HOLDS is what the latest to COME says");
        // the slow rider sets out first and comes last
        SlowOrder x = Check.told(LAND + says(0, 0, 7, 0, 1, 1) + says(1, 0, 4, 0, 1, 0) + says(0, 0, 8, 0, 1, 4));
        held(x, 1, 0, 3, -1, -1);
        held(x, 1, 0, 4, 7, 0);
        held(x, 1, 0, 5, 7, 0);
        held(x, 1, 0, 6, 4, 1);
        held(x, 1, 0, 7, 8, 2);
        // by number the first, by coming the last
        x = Check.told(LAND + says(0, 0, 7, 0, 1, 9) + says(0, 0, 4, 0, 1, 8) + says(0, 0, 8, 0, 1, 7));
        held(x, 1, 0, 10, 8, 2);
        held(x, 1, 0, 11, 4, 1);
        held(x, 1, 0, 12, 7, 0);
        Check.term("III", "of those about that THING that are not undone and say something");
        x = Check.told(LAND + says(0, 0, 7, 0, 1, 0) + says(0, 1, 4, 0, 1, 1) + says(0, 0, 8, 0, 1, 2) + undoes(0, 0, 2, 0, 1, 3));
        held(x, 1, 0, 5, 8, 2);
        held(x, 1, 0, 6, 7, 0);
        held(x, 1, 1, 19, 4, 1);
        held(x, 1, 2, 19, -1, -1);
    }

    private static void oneHour() {
        Check.term("III", "of one HOUR that with the greater number");
        SlowOrder x = Check.told(LAND + says(0, 0, 7, 0, 1, 3) + says(1, 0, 4, 2, 1, 0) + says(0, 0, 8, 2, 1, 3));
        held(x, 1, 0, 5, -1, -1);
        held(x, 1, 0, 6, 8, 2);
        x = Check.told(LAND + says(0, 0, 8, 2, 1, 3) + says(1, 0, 4, 2, 1, 0) + undoes(0, 0, 1, 0, 1, 3));
        held(x, 1, 0, 6, 8, 0);
        x = Check.told(LAND + says(0, 0, 5, 0, 1, 3).repeat(9) + says(0, 0, 5, 0, 1, 3));
        held(x, 1, 0, 6, 5, 9);
        // of the same number the later HOUR goes first
        x = Check.told(LAND + says(0, 0, 7, 0, 1, 4) + says(0, 0, 4, 0, 1, 3));
        held(x, 1, 0, 19, 7, 0);
    }

    // ---- promises 12 to 15 ----

    private static void noSuchAsked() {
        SlowOrder x = Check.told(LAND + says(0, 2, 4, 0, 2, 0));
        int[][] bad = {{3, 0, 0}, {8, 0, 0}, {-1, 0, 0}, {MOST, 0, 0}, {LEAST, 0, 0}, {0, 3, 0}, {0, -1, 0}, {0, MOST, 0},
            {0, LEAST, 0}, {0, 0, 20}, {0, 0, 99}, {0, 0, -1}, {0, 0, MOST}, {0, 0, LEAST}, {3, 3, 20}};
        for (int[] b : bad) {
            Check.promise(12, "-2: there are none such");
            Check.due("holds(" + b[0] + ", " + b[1] + ", " + b[2] + ")", x.holds(b[0], b[1], b[2]), -2);
            Check.promise(13, "-2 likewise");
            Check.due("whose(" + b[0] + ", " + b[1] + ", " + b[2] + ")", x.whose(b[0], b[1], b[2]), -2);
        }
        Check.promise(12, "NONE: nothing");
        Check.due("the least", x.holds(0, 0, 0), -1);
        Check.due("the greatest", x.holds(2, 2, 19), 4);
        Check.promise(13, "NONE, -2 likewise");
        Check.due("the least", x.whose(0, 0, 0), -1);
        Check.due("the greatest", x.whose(2, 2, 19), 0);
        Check.due("the HOUR ahead of its coming", x.whose(2, 2, 5), -1);
    }

    private static void undoneBits() {
        Check.promise(14, "ORDERS that are undone in a TOWN at an HOUR, as bits");
        // the last that can be undone, the first, and some at once
        StringBuilder s = new StringBuilder(LAND);
        s.append(says(0, 0, 4, 0, 1, 0).repeat(9)).append(undoes(0, 0, 8, 0, 1, 0));
        Check.due("order 8", Check.told(s.toString()).undone(1, 3), 256);
        s = new StringBuilder(LAND + says(0, 0, 4, 0, 1, 0).repeat(5));
        for (int o = 0; o < 5; o++) {
            s.append(undoes(0, 0, o, 0, 1, o));
        }
        SlowOrder x = Check.told(s.toString());
        int[] bits = {0, 0, 0, 1, 3, 7, 15, 31, 31};
        for (int hour = 0; hour < bits.length; hour++) {
            Check.due("undone(1, " + hour + ")", x.undone(1, hour), bits[hour]);
            Check.due("undone(0, " + hour + ")", x.undone(0, hour), 0);
        }
        x = Check.told(LAND + says(0, 0, 4, 0, 1, 0) + undoes(0, 0, 0, 0, 1, 0) + undoes(0, 0, 0, 0, 1, 0));
        Check.due("undone twice is undone", x.undone(1, 3), 1);
        Check.due("in another town of theirs", x.undone(2, 3), 0);
    }

    private static void noSuchUndone() {
        Check.promise(14, "-2: there are none such");
        SlowOrder x = Check.told(LAND);
        int[][] bad = {{3, 0}, {8, 0}, {-1, 0}, {MOST, 0}, {LEAST, 0}, {0, 20}, {0, -1}, {0, MOST}, {0, LEAST}, {3, 20}};
        for (int[] b : bad) {
            Check.due("undone(" + b[0] + ", " + b[1] + ")", x.undone(b[0], b[1]), -2);
        }
        Check.due("the greatest", x.undone(2, 19), 0);
    }

    private static void changes() {
        Check.promise(15, "How many times what HOLDS changes in a TOWN from HOUR to HOUR");
        SlowOrder x = Check.told(LAND);
        Check.due("never", x.changes(1, 0), 0);
        x = Check.told(LAND + says(0, 0, 4, 0, 1, 16));
        Check.due("in the last HOUR", x.changes(1, 0), 1);
        x = Check.told(LAND + says(0, 0, 4, 0, 1, 17));
        Check.due("behind it", x.changes(1, 0), 0);
        x = Check.told("realm towns 2 hours 5;road 0 to 1 hours 1;rider pace 1 rests 0;" + says(0, 0, 4, 0, 1, 0));
        Check.due("from the first HOUR to the second", x.changes(1, 0), 1);
        Check.due("elsewhere", x.changes(0, 0), 0);
        x = Check.told("realm towns 2 hours 5;road 0 to 1 hours 1;rider pace 1 rests 0;" + says(0, 0, 4, 0, 1, 0)
            + says(0, 0, 5, 0, 1, 1) + says(0, 0, 6, 0, 1, 2) + says(0, 0, 7, 0, 1, 3) + says(0, 0, 8, 0, 1, 4));
        Check.due("in each HOUR but the first", x.changes(1, 0), 4);
        x = Check.told(LAND + says(0, 0, 4, 0, 1, 0) + says(0, 0, 4, 0, 1, 2));
        Check.due("another that says the same", x.changes(1, 0), 1);
        x = Check.told(LAND + says(0, 0, 4, 0, 1, 0) + says(0, 0, 5, 0, 1, 2) + says(0, 0, 4, 0, 1, 2));
        Check.due("both in one HOUR", x.changes(1, 0), 1);
        x = Check.told(LAND + says(0, 0, 4, 0, 1, 0) + undoes(0, 0, 0, 0, 1, 2) + undoes(0, 0, 1, 0, 1, 5));
        Check.due("to nothing and back", x.changes(1, 0), 3);
        Check.due("about another THING", x.changes(1, 1), 0);
        x.seal(5);
        Check.due("to nothing, sealed", x.changes(1, 0), 2);
        x.seal(2);
        Check.due("all sealed", x.changes(1, 0), 0);
    }

    private static void noSuchChanges() {
        Check.promise(15, "-2: there are none such");
        SlowOrder x = Check.told(LAND);
        int[][] bad = {{3, 0}, {8, 0}, {-1, 0}, {MOST, 0}, {LEAST, 0}, {0, 3}, {0, -1}, {0, MOST}, {0, LEAST}, {3, 3}};
        for (int[] b : bad) {
            Check.due("changes(" + b[0] + ", " + b[1] + ")", x.changes(b[0], b[1]), -2);
        }
        Check.due("the greatest", x.changes(2, 2), 0);
    }

    // ---- promises 16 to 18 ----

    private static void discord() {
        Check.promise(16, "DISCORD (III)");
        Check.term("III", "HOURS by ROADS: each HOUR for each ROAD whose two TOWNS are not told the same");
        SlowOrder x = Check.told(LAND + says(0, 0, 4, 0, 1, 0));
        Check.due("both roads from 3 on", x.discord(0), 34);
        x = Check.told(LAND + says(0, 0, 4, 0, 1, 16));
        Check.due("both roads in the last HOUR", x.discord(0), 2);
        x = Check.told(LAND + says(0, 0, 4, 0, 1, 17));
        Check.due("never", x.discord(0), 0);
        x = Check.told(LAND + says(0, 0, 4, 1, 0, 0) + says(0, 0, 4, 1, 2, 0));
        Check.due("ends alike, the middle told nothing", x.discord(0), 34);
        x = Check.told(LAND + says(0, 0, 4, 1, 0, 0) + says(0, 0, 4, 0, 1, 0) + says(0, 0, 4, 1, 2, 0));
        Check.due("all told the same at once", x.discord(0), 0);
        // two TOWNS without a ROAD between them
        x = Check.told("realm towns 4 hours 20;road 0 to 1 hours 3;road 2 to 3 hours 3;rider pace 1 rests 0;"
            + says(0, 0, 4, 0, 1, 0) + says(0, 0, 4, 1, 0, 0) + says(0, 0, 5, 2, 3, 0) + says(0, 0, 5, 3, 2, 0));
        Check.due("no road between", x.discord(0), 0);
        x = Check.told("realm towns 3 hours 20;rider pace 1 rests 0;");
        Check.due("no roads", x.discord(0), 0);
        x.seal(3);
        Check.due("no roads", x.discord(2), 0);
        x = Check.told("realm towns 2 hours 5;road 0 to 1 hours 1;rider pace 1 rests 0;" + says(0, 2, 0, 0, 1, 0));
        Check.due("from 1 to 4", x.discord(2), 4);
    }

    private static void nothingAlone() {
        Check.promise(16, "DISCORD (III)");
        Check.term("III", "nothing is like nothing alone");
        SlowOrder x = Check.told(LAND + says(0, 0, 0, 0, 1, 0));
        Check.due("nothing is not like 0", x.discord(0), 34);
        Check.due("nothing is like nothing", x.discord(1), 0);
        x = Check.told(LAND + says(0, 0, 0, 0, 1, 0) + undoes(0, 0, 0, 0, 1, 2));
        Check.due("what is undone is nothing", x.discord(0), 4);
    }

    private static void peace() {
        Check.promise(17, "The first HOUR from which on to the end there is none; NONE: there is some in the last one");
        SlowOrder x = Check.told(LAND + says(0, 0, 4, 0, 1, 0));
        Check.due("some in the last one", x.peace(0), -1);
        Check.due("none at all", x.peace(1), 0);
        x = Check.told(LAND + says(0, 0, 4, 0, 1, 16));
        Check.due("some in the last one alone", x.peace(0), -1);
        x = Check.told(LAND + says(0, 0, 4, 0, 1, 15) + undoes(0, 0, 0, 0, 1, 16));
        Check.due("none in the last one", x.peace(0), 19);
        x = Check.told(LAND + says(0, 0, 4, 0, 1, 3) + undoes(0, 0, 0, 0, 1, 4));
        Check.due("behind one HOUR of it", x.peace(0), 7);
        x = Check.told(LAND + says(0, 0, 4, 0, 1, 3) + undoes(0, 0, 0, 0, 1, 4) + says(0, 0, 4, 0, 1, 9)
            + undoes(0, 0, 2, 0, 1, 10));
        Check.due("of two peaces the one to the end", x.peace(0), 13);
        x = Check.told("realm towns 3 hours 20;");
        Check.due("no roads", x.peace(0), 0);
        x = Check.told("realm towns 2 hours 5;road 0 to 1 hours 1;rider pace 1 rests 0;" + says(0, 0, 4, 0, 1, 0)
            + says(0, 0, 4, 1, 0, 1));
        Check.due("from the third on", x.peace(0), 2);
    }

    private static void just() {
        Check.promise(18, "The seal by which DISCORD is least (0 .. 99, the first of several)");
        SlowOrder x = Check.told(LAND + says(0, 0, 4, 0, 1, 0));
        Check.due("0 leaves none", x.just(0), 0);
        Check.due("the first of several", x.just(1), 0);
        Check.promise(18, "all else as it is");
        Check.due("the seal", x.count(8), 99);
        Check.due("what holds", x.holds(1, 0, 3), 4);
        Check.due("discord", x.discord(0), 34);
        x.seal(2);
        Check.due("0 leaves none", x.just(0), 0);
        Check.due("the seal", x.count(8), 2);
        Check.due("what holds", x.holds(1, 0, 19), -1);
    }

    private static void noSuchThing() {
        SlowOrder none = new SlowOrder();
        SlowOrder x = Check.told(LAND);
        int[] bad = {3, 4, -1, MOST, LEAST};
        for (int thing : bad) {
            Check.promise(16, "-2: there is no such THING, no REALM");
            Check.due("discord(" + thing + ")", x.discord(thing), -2);
            Check.promise(17, "-2 likewise");
            Check.due("peace(" + thing + ")", x.peace(thing), -2);
            Check.promise(18, "-2 likewise");
            Check.due("just(" + thing + ")", x.just(thing), -2);
        }
        for (int thing = 0; thing < 3; thing++) {
            Check.promise(16, "-2: there is no such THING, no REALM");
            Check.due("discord(" + thing + ")", x.discord(thing), 0);
            Check.due("no realm, discord(" + thing + ")", none.discord(thing), -2);
            Check.promise(17, "-2 likewise");
            Check.due("peace(" + thing + ")", x.peace(thing), 0);
            Check.due("no realm, peace(" + thing + ")", none.peace(thing), -2);
            Check.promise(18, "-2 likewise");
            Check.due("just(" + thing + ")", x.just(thing), 0);
            Check.due("no realm, just(" + thing + ")", none.just(thing), -2);
        }
    }

    // ---- promise 19 ----

    private static void seal() {
        Check.promise(19, "The seal is n (0 .. 99) from now on: which it was");
        SlowOrder x = Check.told(LAND + says(0, 0, 4, 0, 1, 0) + says(0, 0, 5, 0, 1, 4));
        Check.due("without", x.seal(99), 99);
        Check.due("the greatest", x.seal(0), 99);
        held(x, 1, 0, 19, -1, -1);
        Check.due("the least", x.seal(2), 0);
        held(x, 1, 0, 19, -1, -1);
        Check.due("one ahead of its coming", x.seal(3), 2);
        held(x, 1, 0, 19, 4, 0);
        Check.due("the HOUR of its coming", x.seal(6), 3);
        held(x, 1, 0, 19, 4, 0);
        Check.due("one ahead of the second", x.seal(7), 6);
        held(x, 1, 0, 19, 5, 1);
        held(x, 1, 0, 6, 4, 0);
        Check.due("now", x.count(8), 7);
        x = Check.told(LAND + "seal 13;");
        Check.due("as told", x.seal(14), 13);
    }

    private static void noSuchSeal() {
        Check.promise(19, "-2: there is none such, no REALM");
        SlowOrder x = Check.told(LAND + says(0, 0, 4, 0, 1, 0));
        int[] bad = {100, 101, -1, MOST, LEAST};
        for (int n : bad) {
            Check.due("seal(" + n + ")", x.seal(n), -2);
            Check.due("it stays", x.count(8), 99);
            held(x, 1, 0, 19, 4, 0);
        }
        SlowOrder none = new SlowOrder();
        int[] good = {0, 1, 50, 99};
        for (int n : good) {
            Check.due("no realm, seal(" + n + ")", none.seal(n), -2);
            Check.due("none", none.count(8), 0);
        }
        x.realm();
        Check.due("no realm any more", x.seal(5), -2);
    }
}
