/** Promises 1 to 5 and Term I: the sentences that name a boundary case. */
final class TextEdges {
    private static final String HEAD = "realm towns 4 hours 20;";
    private static final String ROADS = HEAD + "road 0 to 1 hours 2;road 1 to 2 hours 3;";
    private static final String RIDER = ROADS + "rider pace 1 rests 0;";
    private static final String SAYS = RIDER + "order rider 0 on 0 says 1 from 0 to 1 at 0;";
    private static final String UNDOES = SAYS + "order rider 0 on 2 undoes 0 from 0 to 1 at 3;";
    private static final int MOST = Integer.MAX_VALUE;
    private static final int LEAST = Integer.MIN_VALUE;

    private TextEdges() {
    }

    static void all() {
        newObject();
        newObjectElse();
        feedHighestFirst();
        feedFull();
        end();
        realmOfNothing();
        realmInPlace();
        realmFaulty();
        fault();
        firstLine();
        realmBounds();
        roads();
        floods();
        riders();
        orders();
        meanings();
        vias();
        wishes();
        seals();
        mostOfEach();
        blanks();
        longestTokens();
        noTokens();
        misplaced();
        firstByPlace();
        leastOfOnePlace();
        placeOfTheEnd();
        cutAtTheEnd();
        hugeNumbers();
    }

    // ---- promise 1 ----

    private static void newObject() {
        Check.promise(1, "No REALM");
        SlowOrder x = new SlowOrder();
        for (int what = 0; what <= 9; what++) {
            Check.due("count(" + what + ")", x.count(what), 0);
        }
        Check.due("hours", x.hours(0, 0), -2);
        Check.due("way", x.way(0, 0, 0), -2);
        Check.due("order", x.order(0, 0), -2);
        Check.due("comes", x.comes(0), -2);
        Check.due("rider", x.rider(0, 0), -2);
        Check.due("passes", x.passes(0, 0), -2);
        Check.due("holds", x.holds(0, 0, 0), -2);
        Check.due("whose", x.whose(0, 0, 0), -2);
        Check.due("undone", x.undone(0, 0), -2);
        Check.due("changes", x.changes(0, 0), -2);
        Check.due("discord", x.discord(0), -2);
        Check.due("peace", x.peace(0), -2);
        Check.due("just", x.just(0), -2);
        Check.due("seal", x.seal(0), -2);
        Check.due("sends", x.sends(0, 0), -2);
        Check.due("latest", x.latest(0, 0), -2);
        Check.due("earliest", x.earliest(0, 0), -2);
        Check.due("ways", x.ways(0, 0), -2);
        Check.due("best", x.best(0, 0, 0), -2);
    }

    private static void newObjectElse() {
        Check.promise(1, "No REALM");
        SlowOrder x = new SlowOrder();
        Check.due("delay", x.delay(0, 0, -1, 0, 0), -2);
        Check.due("queen", x.queen(0, 1, 0, 0, 0), -2);
        Check.due("wish", x.wish(0), -2);
        Check.due("rest", x.rest(), -2);
        Check.due("rests", x.rests(0), -2);
        Check.due("sent", x.sent(0, 0), -2);
        Check.due("cross", x.cross(), -2);
        Check.due("meets", x.meets(0, 1), -2);
        Check.due("forged", x.forged(0), -2);
        Check.due("agree", x.agree(0, 0), -2);
        Check.due("when", x.when(0, 0, 0), -2);
        Check.due("sure", x.sure(0, 0, 0, 0, 0), -2);
        Check.due("matters", x.matters(0), -2);
        Check.due("year", x.year(0, 0, 0), -2);
        Check.due("years", x.years(0, 1, 0, 0, 0, -1, 0), -2);
        for (int k = 0; k < 3; k++) {
            Check.due("restore", x.restore(k), -6);
        }
        for (int slot = 0; slot < 4; slot++) {
            Check.due("write", x.write(slot, 0, 0), -6);
        }
        Check.due("end", x.end(1), -1);
        Check.due("realm", x.realm(), 0);
    }

    // ---- promises 2 and 3 ----

    private static void feedHighestFirst() {
        Check.promise(2, "Twenty bytes come behind the TAPE, four of each number, the highest first");
        SlowOrder x = new SlowOrder();
        x.feed(0x7265616c, 0x6d20746f, 0x776e7320, 0x3320686f, 0x75727320);
        x.feed(0x373b2020, 0x20202020, 0x20202020, 0x20202020, 0x20202020);
        Check.due("realm", x.realm(), 1);
        Check.due("towns", x.count(0), 3);
        Check.due("hours", x.count(1), 7);
        // one byte alone is none of a TOKEN: where it stands its place tells
        for (int i = 0; i < 20; i++) {
            int[] v = {0x20202020, 0x20202020, 0x20202020, 0x20202020, 0x20202020};
            v[i / 4] ^= (0x20 ^ 0xe1) << (24 - i % 4 * 8);
            Check.due("feed", x.feed(v[0], v[1], v[2], v[3], v[4]), 20);
            Check.due("realm", x.realm(), -4);
            Check.due("place of byte " + i, x.fault(1), i);
        }
        Check.promise(2, "how many it has");
        Check.due("feed", x.feed(0, 0, 0, 0, 0), 20);
        Check.due("feed", x.feed(MOST, LEAST, -1, 1, 0), 40);
        x.end(7);
        Check.due("feed behind seven", x.feed(0, 0, 0, 0, 0), 27);
    }

    private static void feedFull() {
        Check.promise(2, "NONE, and none come, if it would have more than 2,000");
        SlowOrder x = new SlowOrder();
        Check.tape(x, HEAD);
        x.end(HEAD.length() - 3);
        for (int n = 40; n <= 2000; n += 20) {
            Check.due("feed", x.feed(0x20202020, 0x20202020, 0x20202020, 0x20202020, 0x20202020), n);
        }
        Check.due("full", x.feed(0x20202020, 0x20202020, 0x20202020, 0x20202020, 0x20202020), -1);
        Check.due("full, asked again", x.feed(0, 0, 0, 0, 0), -1);
        Check.due("count(7)", x.count(7), 2000);
        Check.due("realm", x.realm(), -4);
        Check.due("behind the blanks that came", x.fault(1), 2000);
        for (int n = 20; n <= 2000; n += 20) {
            x.feed(0x20202020, 0x20202020, 0x20202020, 0x20202020, 0x20202020);
        }
        for (int n = 1999; n > 1980; n--) {
            Check.due("end", x.end(n), n);
            Check.due("feed at " + n, x.feed(-1, -1, -1, -1, -1), -1);
            Check.due("none come", x.count(7), n);
        }
        Check.due("all blanks still", x.realm(), 0);
        for (int n = 20; n <= 2000; n += 20) {
            x.feed(0x20202020, 0x20202020, 0x20202020, 0x20202020, 0x20202020);
        }
        x.end(1980);
        Check.due("just 2,000", x.feed(0x20202020, 0x20202020, 0x20202020, 0x20202020, 0x2020203b), 2000);
        Check.due("realm", x.realm(), -4);
        Check.due("the last byte", x.fault(1), 1999);
    }

    private static void end() {
        Check.promise(3, "NONE, and nothing happens, if it has not so many, or n is below 0");
        SlowOrder x = new SlowOrder();
        Check.due("end(0), empty", x.end(0), 0);
        Check.due("end(1), empty", x.end(1), -1);
        Check.due("end(-1), empty", x.end(-1), -1);
        Check.tape(x, HEAD + "seal 7;");
        int bytes = HEAD.length() + 7;
        int[] bad = {bytes + 1, 2000, 2001, MOST, -1, -2, LEAST};
        for (int n : bad) {
            Check.due("end(" + n + ")", x.end(n), -1);
            Check.due("nothing happens", x.count(7), bytes);
        }
        Check.promise(3, "The TAPE has its first n bytes alone: n");
        Check.due("all", x.end(bytes), bytes);
        Check.due("but one", x.end(bytes - 1), bytes - 1);
        Check.due("that one is gone", x.end(bytes), -1);
        Check.due("first ones", x.end(HEAD.length()), HEAD.length());
        Check.due("realm", x.realm(), 1);
        Check.due("seal is cut", x.count(8), 99);
        Check.tape(x, HEAD);
        Check.due("none", x.end(0), 0);
        Check.due("realm of none", x.realm(), 0);
        Check.tape(x, "A" + HEAD);
        x.end(0);
        Check.tape(x, HEAD);
        Check.due("what comes behind comes first then", x.realm(), 1);
    }

    // ---- promises 4 and 5 ----

    private static void realmOfNothing() {
        Check.promise(4, "how many LINES (0: there is none then)");
        SlowOrder x = Check.told(UNDOES);
        Check.due("towns", x.count(0), 4);
        Check.due("empty", x.realm(), 0);
        Check.due("none then", x.count(0), 0);
        Check.due("no lines", x.count(6), 0);
        Check.due("no orders", x.comes(0), -2);
        Check.due("no seal", x.seal(3), -2);
        x = Check.told(UNDOES);
        Check.due("blanks alone", Check.tell(x, "  \n \n\n  "), 0);
        Check.due("none then", x.count(0), 0);
        Check.due("fault", x.fault(0), 0);
        Check.due("place", x.fault(1), -1);
        Check.due("one line", Check.tell(x, HEAD), 1);
        Check.due("lines", Check.tell(x, UNDOES + "wish 0 says 1 in 1 at 2;seal 9;"), 8);
        Check.due("lines", x.count(6), 8);
    }

    private static void realmInPlace() {
        Check.promise(4, "The TAPE (empty then) is the REALM (in place of another)");
        SlowOrder x = new SlowOrder();
        Check.tape(x, UNDOES + "seal 9;");
        Check.due("realm", x.realm(), 7);
        Check.due("empty then", x.count(7), 0);
        x.sends(0, 5);
        Check.due("another", Check.tell(x, "realm towns 3 hours 9;road 2 to 1 hours 1;"), 2);
        int[] due = {3, 9, 1, 0, 0, 0, 2, 0, 99};
        for (int what = 0; what < due.length; what++) {
            Check.due("count(" + what + ")", x.count(what), due[what]);
        }
        Check.due("no order of the other", x.order(0, 0), -2);
        Check.due("no road of the other", x.hours(0, 1), -1);
        Check.due("the same again", Check.tell(x, UNDOES), 6);
        Check.due("its hour as told", x.order(0, 6), 0);
    }

    private static void realmFaulty() {
        Check.promise(4, "-4: a FAULT (the TAPE is empty, all else stays)");
        SlowOrder x = Check.told(UNDOES + "wish 0 says 1 in 1 at 2;");
        x.sends(0, 5);
        x.seal(17);
        x.row(1, 0, 3);
        x.image(2);
        String[] faulty = {"A", "realm", "realm towns 2 hours 5", "realm towns 2 hours 5;seal 100;",
            RIDER + "order rider 0 on 0 says 7 from 2 to 0 at 9;road 0 to 3 hours 1;flood 0 to 3 from 0 to 9;seal 1;;"};
        for (String text : faulty) {
            Check.due(text, Check.tell(x, text), -4);
            int[] due = {4, 20, 2, 0, 1, 2, 7, 0, 17, 1};
            for (int what = 0; what < due.length; what++) {
                Check.due("count(" + what + ")", x.count(what), due[what]);
            }
            Check.due("order", x.order(0, 6), 5);
            Check.due("says", x.order(0, 2), 1);
            Check.due("comes", x.comes(0), 7);
            Check.due("hours", x.hours(0, 3), -1);
            Check.due("latest", x.latest(0, 4), 2);
            Check.due("wish", x.wish(0), 0);
        }
        Check.tell(x, HEAD);
        Check.due("the image stays", x.restore(2), 0);
        Check.due("its seal", x.count(8), 17);
    }

    private static void fault() {
        SlowOrder x = new SlowOrder();
        Check.promise(5, "NONE for another what, and ahead of any (what 1)");
        Check.due("ahead of any, what 0", x.fault(0), 0);
        Check.due("ahead of any, what 1", x.fault(1), -1);
        int[] other = {2, 3, -1, MOST, LEAST};
        for (int what : other) {
            Check.due("fault(" + what + ")", x.fault(what), -1);
        }
        Check.tell(x, "realm towns 9");
        for (int what : other) {
            Check.due("fault(" + what + ")", x.fault(what), -1);
        }
        Check.promise(5, "what 0: its FAULT, 0 without, 1: its place (NONE without)");
        Check.due("fault", x.fault(0), 2);
        Check.due("place", x.fault(1), 12);
        Check.tell(x, HEAD);
        Check.due("without", x.fault(0), 0);
        Check.due("without", x.fault(1), -1);
        Check.promise(5, "Of the latest realm()");
        Check.tell(x, ";");
        Check.due("fault", x.fault(0), 1);
        Check.due("place 0", x.fault(1), 0);
        Check.tape(x, HEAD);
        Check.due("till the next realm()", x.fault(0), 1);
        x.end(0);
        x.realm();
        Check.due("none read", x.fault(0), 0);
        Check.due("none read", x.fault(1), -1);
    }

    // ---- Term I, LINE by LINE ----

    private static void firstLine() {
        Check.term("I", "realm is the first LINE and no other");
        String[] others = {"road 0 to 1 hours 2;", "flood 0 to 1 from 0 to 1;", "rider pace 1 rests 0;",
            "order rider 0 on 0 says 1 from 0 to 1 at 0;", "wish 0 says 1 in 1 at 0;", "seal 9;", "towns 3;", "reals"};
        for (String other : others) {
            Check.refused(other + HEAD, 1, 0);
        }
        Check.refused(HEAD + HEAD, 1, HEAD.length());
        Check.refused(ROADS + "realm towns 9", 1, ROADS.length());
        SlowOrder x = new SlowOrder();
        Check.due("first and only", Check.tell(x, HEAD), 1);
    }

    private static void realmBounds() {
        Check.term("I", "towns 2 .. 8, hours 5 .. 99");
        Check.bounds("realm towns ", 2, 8, " hours 9;");
        Check.bounds("realm towns 2 hours ", 5, 99, ";");
        Check.refused("realm towns 0 hours 9;", 2, 12);
        Check.refused("realm towns 2 hours 0;", 2, 20);
    }

    private static void roads() {
        Check.term("I", "T a TOWN 0 .. towns less 1");
        Check.bounds(HEAD + "road ", 0, 3, " to 1 hours 1;");
        Check.bounds(HEAD + "road 1 to ", 2, 3, " hours 1;");
        Check.bounds("realm towns 8 hours 9;road 0 to ", 1, 7, " hours 1;");
        Check.bounds("realm towns 2 hours 9;road 0 to ", 1, 1, " hours 1;");
        Check.term("I", "road: two unlike TOWNS without a ROAD between them, hours 1 .. 20");
        for (int t = 0; t < 4; t++) {
            Check.refusedAtEnd(HEAD + "road " + t + " to " + t, 2);
        }
        Check.refusedAtEnd(ROADS + "road 0 to 1", 2);
        Check.refusedAtEnd(ROADS + "road 1 to 0", 2);
        Check.refusedAtEnd(ROADS + "road 2 to 1", 2);
        SlowOrder x = Check.told(ROADS + "road 2 to 0 hours 20;");
        Check.due("a third side", x.count(2), 3);
        Check.bounds(HEAD + "road 0 to 1 hours ", 1, 20, ";");
    }

    private static void floods() {
        Check.term("I", "flood of a ROAD that is told, from 0 .. hours less 1, to no less, hours less 1 at most");
        Check.refusedAtEnd(HEAD + "flood 0 to 1", 2);
        Check.refusedAtEnd(ROADS + "flood 0 to 2", 2);
        Check.refusedAtEnd(ROADS + "flood 1 to 1", 2);
        Check.refusedAtEnd(ROADS + "flood 4", 2);
        Check.refused(ROADS + "flood 0 to 3 from 0 to 1;road 0 to 3 hours 1;", 2, ROADS.length() + 11);
        Check.bounds(ROADS + "flood 0 to 1 from ", 0, 19, " to 19;");
        Check.bounds(ROADS + "flood 1 to 0 from 0 to ", 0, 19, ";");
        Check.bounds(ROADS + "flood 1 to 2 from 7 to ", 7, 19, ";");
        Check.bounds(ROADS + "flood 2 to 1 from 19 to ", 19, 19, ";");
        // either way, and again
        SlowOrder x = Check.told(ROADS + "flood 0 to 1 from 1 to 5;flood 1 to 0 from 1 to 5;");
        Check.due("floods", x.count(3), 2);
    }

    private static void riders() {
        Check.term("I", "pace 1 .. 9, rests 0 .. 20");
        Check.bounds(HEAD + "rider pace ", 1, 9, " rests 0;");
        Check.bounds(HEAD + "rider pace 1 rests ", 0, 20, ";");
    }

    private static void orders() {
        Check.term("I", "rider a RIDER told ahead");
        Check.refusedAtEnd(ROADS + "order rider 0", 2);
        Check.bounds(RIDER + "order rider ", 0, 0, " on 0 says 1 from 0 to 1 at 0;");
        Check.bounds(RIDER + "rider pace 2 rests 0;order rider ", 0, 1, " on 0 says 1 from 0 to 1 at 0;");
        Check.refused(RIDER + "order rider 1 on 0 says 1 from 0 to 1 at 0;rider pace 1 rests 0;", 2,
            RIDER.length() + 12);
        Check.term("I", "on 0 .. 2 (the THING); says 0 .. 9");
        Check.bounds(RIDER + "order rider 0 on ", 0, 2, " says 1 from 0 to 1 at 0;");
        Check.bounds(RIDER + "order rider 0 on 0 says ", 0, 9, " from 0 to 1 at 0;");
        Check.term("I", "from and to two unlike TOWNS, at an HOUR");
        Check.bounds(RIDER + "order rider 0 on 0 says 1 from ", 0, 3, " to 1 at 0;");
        Check.bounds(RIDER + "order rider 0 on 0 says 1 from 1 to ", 2, 3, " at 0;");
        for (int t = 0; t < 4; t++) {
            Check.refusedAtEnd(RIDER + "order rider 0 on 0 says 1 from " + t + " to " + t, 2);
        }
        Check.bounds(RIDER + "order rider 0 on 0 says 1 from 0 to 1 at ", 0, 19, ";");
    }

    private static void meanings() {
        Check.term("I", "undoes: an ORDER told ahead");
        String undo = "order rider 0 on 1 undoes ";
        String rest = " from 0 to 1 at 0;";
        Check.refusedAtEnd(RIDER + "order rider 0 on 1 undoes 0", 2);
        Check.bounds(SAYS + undo, 0, 0, rest);
        Check.bounds(UNDOES + undo, 0, 1, rest);
        Check.bounds(SAYS + (undo + "0" + rest).repeat(8) + undo, 0, 8, rest);
        SlowOrder x = Check.told(UNDOES + undo + "1" + rest);
        Check.due("one that undoes may be undone", x.order(2, 3), 1);
        Check.refusedAtEnd(RIDER + "order rider 0 on 0 undo", 1);
        Check.refusedAtEnd(RIDER + "order rider 0 on 0 undoes says", 1);
        Check.refusedAtEnd(SAYS + "order rider 0 on 0 undoes 0 says", 1);
        Check.refusedAtEnd(SAYS + "order rider 0 on 0 says 0 undoes", 1);
    }

    private static void vias() {
        String order = RIDER + "order rider 0 on 0 says 1 from 0 to 1 at 0";
        Check.term("I", "via 1 .. 3 TOWNS");
        SlowOrder x = new SlowOrder();
        Check.so("none", Check.tell(x, order + ";") > 0);
        Check.refusedAtEnd(order + " via ;", 1);
        Check.so("one", Check.tell(x, order + " via 2;") > 0);
        Check.so("two", Check.tell(x, order + " via 2 2;") > 0);
        Check.so("three", Check.tell(x, order + " via 2 0 1;") > 0);
        Check.term("I", "a fourth TOWN of via");
        Check.refusedAtEnd(order + " via 2 0 1 3", 1);
        Check.refusedAtEnd(order + " via 2 0 1 4", 1);
        Check.refusedAtEnd(order + " via 2 0 1 via", 1);
        Check.refusedAtEnd(order + " via 2 via", 1);
        Check.refusedAtEnd(order + " 2", 1);
        Check.bounds(order + " via ", 0, 3, ";");
        Check.bounds(order + " via 0 ", 0, 3, " 0;");
        Check.bounds(order + " via 0 1 ", 0, 3, ";");
        Check.so("undoing by way of", Check.tell(x, order + ";order rider 0 on 0 undoes 0 from 0 to 1 at 0 via 2 0 1;") > 0);
    }

    private static void wishes() {
        Check.term("I", "wish of an ORDER told ahead that says something (a later one strikes)");
        Check.refusedAtEnd(RIDER + "wish 0", 2);
        Check.bounds(SAYS + "wish ", 0, 0, " says 1 in 1 at 2;");
        Check.refused(RIDER + "wish 0 says 1 in 1 at 2;order rider 0 on 0 says 1 from 0 to 1 at 0;", 2,
            RIDER.length() + 5);
        Check.refusedAtEnd(UNDOES + "wish 1", 2);
        Check.refusedAtEnd(UNDOES + "wish 2", 2);
        Check.bounds(SAYS + "wish 0 says ", 0, 9, " in 1 at 2;");
        Check.bounds(SAYS + "wish 0 says 1 in ", 0, 3, " at 2;");
        Check.bounds(SAYS + "wish 0 says 1 in 1 at ", 0, 19, ";");
        SlowOrder x = Check.told(SAYS + "wish 0 says 1 in 1 at 2;");
        Check.due("had", x.wish(0), 1);
        x = Check.told(SAYS + "wish 0 says 1 in 1 at 2;wish 0 says 1 in 1 at 1;");
        Check.due("a later hour strikes", x.wish(0), 0);
        x = Check.told(SAYS + "wish 0 says 2 in 1 at 2;wish 0 says 1 in 1 at 2;");
        Check.due("a later saying strikes", x.wish(0), 1);
        x = Check.told(SAYS + "wish 0 says 1 in 1 at 2;wish 0 says 1 in 2 at 2;");
        Check.due("a later town strikes", x.wish(0), 0);
        Check.due("both are lines", x.count(6), 7);
    }

    private static void seals() {
        Check.term("I", "seal 0 .. 99 (a later one strikes; 99 without)");
        Check.bounds(HEAD + "seal ", 0, 99, ";");
        SlowOrder x = Check.told(HEAD);
        Check.due("without", x.count(8), 99);
        x = Check.told(HEAD + "seal 0;");
        Check.due("seal", x.count(8), 0);
        x = Check.told(HEAD + "seal 3;seal 12;");
        Check.due("a later one strikes", x.count(8), 12);
        x = Check.told(HEAD + "seal 12;rider pace 1 rests 0;seal 3;");
        Check.due("a later one strikes", x.count(8), 3);
        Check.tell(x, HEAD);
        Check.due("without, behind one with", x.count(8), 99);
    }

    private static String someRoads(int n) {
        StringBuilder s = new StringBuilder("realm towns 8 hours 20;");
        for (int i = 0; i < n; i++) {
            s.append("road ").append(i < 7 ? 0 : 1).append(" to ").append(i < 7 ? i + 1 : i - 5).append(" hours 1;");
        }
        return s.toString();
    }

    private static void mostOfEach() {
        Check.term("I", "ROADS 12, FLOODS 8, RIDERS 6, ORDERS 0 .. 9 at most, numbered as they stand");
        String flood = "flood 0 to 1 from 1 to 2;";
        String rider = "rider pace 1 rests 0;";
        String order = "order rider 0 on 0 says 1 from 0 to 1 at 0;";
        SlowOrder x = Check.told(someRoads(12));
        Check.due("roads", x.count(2), 12);
        x = Check.told(ROADS + flood.repeat(8));
        Check.due("floods", x.count(3), 8);
        x = Check.told(HEAD + rider.repeat(6));
        Check.due("riders", x.count(4), 6);
        x = Check.told(RIDER + order.repeat(9) + order.replace("says 1", "says 9"));
        Check.due("orders", x.count(5), 10);
        Check.due("numbered as they stand", x.order(9, 2), 9);
        Check.due("numbered as they stand", x.order(8, 2), 1);
        Check.due("no eleventh", x.order(10, 2), -2);
        Check.term("I", "3 a 13th road, 9th flood, 7th rider, 11th order, at its word");
        Check.refused(someRoads(12) + "road 1 to 7 hours 1;", 3, someRoads(12).length());
        Check.refused(someRoads(12) + "road 9", 3, someRoads(12).length());
        Check.refused(ROADS + flood.repeat(8) + flood, 3, ROADS.length() + 8 * flood.length());
        Check.refused(HEAD + rider.repeat(6) + " \n" + rider, 3, HEAD.length() + 6 * rider.length() + 2);
        Check.refused(RIDER + order.repeat(10) + order, 3, RIDER.length() + 10 * order.length());
        Check.refused(RIDER + order.repeat(10) + "order;", 3, RIDER.length() + 10 * order.length());
        Check.so("a wish more is none of them", Check.tell(x, RIDER + order.repeat(10) + "wish 9 says 1 in 1 at 2;") > 0);
    }

    // ---- Term I, TOKENS and FAULTS ----

    private static void blanks() {
        Check.term("I", "TOKENS, blanks (32, 10) aside");
        SlowOrder x = new SlowOrder();
        Check.due("many", Check.tell(x, "\n \nrealm\n\ntowns  4\nhours 20 \n ;\n\n"), 1);
        Check.due("few", Check.tell(x, "realm towns4hours 20;seal3;"), 2);
        Check.due("seal", x.count(8), 3);
        for (int b = 0; b < 256; b++) {
            x = new SlowOrder();
            boolean blank = b == 32 || b == 10;
            Check.due("between by byte " + b, Check.tell(x, "realm" + (char) b + "towns 4 hours 20;"), blank ? 1 : -4);
            if (!blank) {
                Check.due("fault by byte " + b, x.fault(0), 1);
                // letters make another word of both, which is not realm, and digits stand on their own
                Check.due("place by byte " + b, x.fault(1), b >= 'a' && b <= 'z' ? 0 : 5);
            }
        }
    }

    private static void longestTokens() {
        Check.term("I", "the longest: words (a .. z), numbers (digits), the sign ;");
        Check.refused("realmtowns 4 hours 20;", 1, 0);
        Check.refused("realm townshours 4 20;", 1, 6);
        Check.refused("realm towns 4 4 hours 20;", 1, 14);
        SlowOrder x = Check.told("realm towns 4 hours 20;seal 12;");
        Check.due("one number", x.count(8), 12);
        Check.refusedAtEnd(HEAD + "seal 1 2", 1);
        x = Check.told("realm towns 004 hours 00000000000000000000000000000020;seal 00;");
        Check.due("hours", x.count(1), 20);
        Check.due("seal", x.count(8), 0);
        // what is longer, or shorter, or unlike in one letter
        String[] words = {"realm", "towns", "hours"};
        for (String word : words) {
            int at = HEAD.indexOf(word);
            Check.refused(HEAD.replace(word, word + "s"), 1, at);
            Check.refused(HEAD.replace(word, word.substring(0, 4)), 1, at);
            Check.refused(HEAD.replace(word, word.substring(0, 4) + "z"), 1, at);
            Check.refused(HEAD.replace(word, "z" + word.substring(1)), 1, at);
        }
        // a word's letters may all be letters: from a to z
        Check.refused("az", 1, 0);
        Check.refused("realm azaz", 1, 6);
    }

    private static void noTokens() {
        Check.term("I", "1 a TOKEN that is none");
        for (int b = 0; b < 256; b++) {
            SlowOrder x = new SlowOrder();
            boolean token = b >= 'a' && b <= 'z' || b >= '0' && b <= '9' || b == ';';
            boolean blank = b == 32 || b == 10;
            if (!token && !blank) {
                Check.due("byte " + b, Check.tell(x, HEAD + "  " + (char) b), -4);
                Check.due("byte " + b, x.fault(0), 1);
                Check.due("byte " + b, x.fault(1), HEAD.length() + 2);
            }
        }
        // where a number, a word, the sign is due
        Check.refused("realm towns A hours 20;", 1, 12);
        Check.refused("realm towns -4 hours 20;", 1, 12);
        Check.refused("realm Towns 4 hours 20;", 1, 6);
        Check.refused("realm towns 4 hours 20.", 1, 22);
        Check.refused("realm towns 4.5 hours 20;", 1, 13);
        // beside a number its neighbours in the row of bytes: / and :
        Check.refused("realm towns 4/ hours 20;", 1, 13);
        Check.refused("realm towns 4: hours 20;", 1, 13);
        // beside a word ` and {
        Check.refused("realm` towns 4 hours 20;", 1, 5);
        Check.refused("realm{ towns 4 hours 20;", 1, 5);
        // beside the sign : and <
        Check.refused("realm towns 4 hours 20<", 1, 22);
        Check.refused("realm towns 4 hours 20:", 1, 22);
    }

    private static void misplaced() {
        Check.term("I", "or can't stand there");
        String[] lines = {"realm towns 4 hours 20 ;", "road 0 to 3 hours 2 ;", "flood 0 to 1 from 2 to 3 ;",
            "rider pace 1 rests 0 ;", "order rider 0 on 0 says 1 from 0 to 1 at 0 ;",
            "order rider 0 on 0 undoes 0 from 0 to 1 at 0 ;", "order rider 0 on 0 says 1 from 0 to 1 at 0 via 1 2 3 ;",
            "wish 0 says 1 in 1 at 2 ;", "seal 3 ;"};
        for (String line : lines) {
            String ahead = line.startsWith("realm") ? "" : SAYS;
            SlowOrder x = new SlowOrder();
            Check.so(line, Check.tell(x, ahead + line) > 0);
            String[] tokens = line.split(" ");
            StringBuilder text = new StringBuilder(ahead);
            for (String token : tokens) {
                boolean digit = Character.isDigit(token.charAt(0));
                boolean mayBeLast = token.equals("via") || line.contains("via") && (token.equals("2") || token.equals("3"));
                // one of another kind in its place, or the end
                Check.refused(text + (digit ? "at" : "7"), 1, text.length());
                if (!mayBeLast) {
                    Check.refused(text + (token.equals(";") ? "at" : ";"), 1, text.length());
                }
                if (text.length() > 0 && !token.equals(tokens[0])) {
                    Check.refused(text.toString(), 1, text.length());
                }
                text.append(token).append(' ');
            }
        }
        Check.refused(HEAD + "towns 3;", 1, HEAD.length());
        Check.refused(HEAD + ";", 1, HEAD.length());
        Check.refused(HEAD + "9;", 1, HEAD.length());
        Check.refused(SAYS + "order rider 0 on 0 says 1 from 0 to 1 at 0 via 1 2 3 ; 0", 1, SAYS.length() + 55);
    }

    private static void firstByPlace() {
        Check.term("I", "FAULTS, the first by its place");
        Check.refused("realm towns 1 hours 4 A", 2, 12);
        Check.refused("realm towns 2 hours 4 A", 2, 20);
        Check.refused("realm towns A hours 4", 1, 12);
        Check.refused(HEAD + "road 4 to 4 hours 0", 2, HEAD.length() + 5);
        Check.refused(HEAD + "road 0 to 4 hours 0", 2, HEAD.length() + 10);
        Check.refused(HEAD + "road 3 to 3 A", 2, HEAD.length() + 10);
        Check.term("I", "2 a number out of its bounds, not as said (of two TOWNS at the second; "
            + "a wish of an ORDER that undoes at its number)");
        Check.refused(ROADS + "road 1 to 0 hours 0;", 2, ROADS.length() + 10);
        Check.refused(ROADS + "flood 0 to 3 from 99 to 1;", 2, ROADS.length() + 11);
        Check.refused(ROADS + "flood 0 to 1 from 9 to 8;", 2, ROADS.length() + 23);
        Check.refused(RIDER + "order rider 0 on 0 says 1 from 2 to 2 at 99;", 2, RIDER.length() + 36);
        Check.refused(UNDOES + "wish 1 says 99;", 2, UNDOES.length() + 5);
    }

    private static void leastOfOnePlace() {
        Check.term("I", "of one place the least");
        String order = RIDER + "order rider 0 on 0 says 1 from 0 to 1 at 0 via 0 0 0 ";
        Check.refused(order + "99;", 1, order.length());
        Check.refused(HEAD + "seal 5 100;", 1, HEAD.length() + 7);
        Check.refused("99", 1, 0);
        // realm may not stand there, however many lines there are
        Check.refused(someRoads(12) + "realm", 1, someRoads(12).length());
    }

    private static void placeOfTheEnd() {
        Check.term("I", "its place (a TOKEN's first byte; the end's)");
        Check.refused("realm", 1, 5);
        Check.refused("realm ", 1, 6);
        Check.refused("realm towns 4 hours 20", 1, 22);
        Check.refused("realm towns 4 hours 20\n \n", 1, 25);
        Check.refused(HEAD + "seal", 1, HEAD.length() + 4);
        Check.refused(HEAD + "seal 4  ", 1, HEAD.length() + 8);
        Check.refused("  realm  towns   9", 2, 17);
        SlowOrder x = new SlowOrder();
        String full = HEAD + " ".repeat(1996 - HEAD.length()) + "seal";
        Check.due("a full tape", Check.tell(x, full), -4);
        Check.due("at its end", x.fault(1), 2000);
        x = new SlowOrder();
        Check.due("a full tape, a number at its end", Check.tell(x, full.substring(0, 1994) + "seal 1"), -4);
        Check.due("at its end", x.fault(1), 2000);
        x = new SlowOrder();
        Check.due("a full tape, the sign at its end", Check.tell(x, full.substring(0, 1993) + "seal 1;"), 2);
    }

    private static void cutAtTheEnd() {
        Check.promise(3, "The TAPE has its first n bytes alone");
        String text = HEAD + "seal 12;";
        for (int n = HEAD.length(); n <= text.length(); n++) {
            SlowOrder x = new SlowOrder();
            Check.tape(x, text);
            x.end(n);
            boolean whole = n == HEAD.length() || n == text.length();
            Check.due("cut to " + n, x.realm(), n == text.length() ? 2 : whole ? 1 : -4);
            boolean broken = n > HEAD.length() && n < HEAD.length() + 4;
            Check.due("place, cut to " + n, x.fault(1), whole ? -1 : broken ? HEAD.length() : n);
        }
        SlowOrder x = new SlowOrder();
        Check.tape(x, HEAD + "seal 12;");
        x.end(HEAD.length() + 6);
        Check.due("what comes behind joins what is cut", Check.tell(x, "5;"), 2);
        Check.due("seal 15", x.count(8), 15);
    }

    private static void hugeNumbers() {
        Check.term("I", "2 a number out of its bounds");
        String[] huge = {"4294967300", "18446744073709551620", "2147483652", "1000000", "1000004", "10000000000000000000004",
            "99999999999999999999999999999999999999999999999999999999999999999999999999999999999999999999999999999999"};
        for (String n : huge) {
            Check.refused("realm towns " + n + " hours 20;", 2, 12);
            Check.refused(HEAD + "seal " + n + ";", 2, HEAD.length() + 5);
        }
        Check.refused("realm towns " + "9".repeat(1900) + " hours 20;", 2, 12);
        SlowOrder x = new SlowOrder();
        Check.due("noughts", Check.tell(x, "realm towns " + "0".repeat(1900) + "4 hours 20;"), 1);
        Check.due("towns", x.count(0), 4);
    }
}
