/** Promises 1 to 5: a new object, feed, end, realm, fault; the grammar of the text. */
public final class TextTest {
    private static final String HEAD = "realm towns 4 hours 20;";
    private static final String ROADS = HEAD + "road 0 to 1 hours 2;road 1 to 2 hours 3;";
    private static final String RIDER = ROADS + "rider pace 1 rests 0;";
    private static final String SAYS = RIDER + "order rider 0 on 0 says 1 from 0 to 1 at 0;";
    private static final String UNDOES = SAYS + "order rider 0 on 2 undoes 0 from 0 to 1 at 3;";

    public static void main(String[] args) {
        newObject();
        feed();
        end();
        realm();
        fault();
        tokens();
        misplaced();
        outOfBounds();
        tooMany();
        bounds();
        Check.finish();
    }

    private static void newObject() {
        SlowOrder x = new SlowOrder();
        Check.due("NONE", SlowOrder.NONE, -1);
        for (int what = 0; what < 10; what++) {
            Check.due("new count", x.count(what), 0);
        }
        Check.due("new hours", x.hours(0, 0), -2);
        Check.due("new way", x.way(0, 0, 0), -2);
        Check.due("new order", x.order(0, 0), -2);
        Check.due("new comes", x.comes(0), -2);
        Check.due("new rider", x.rider(0, 0), -2);
        Check.due("new passes", x.passes(0, 0), -2);
        Check.due("new holds", x.holds(0, 0, 0), -2);
        Check.due("new whose", x.whose(0, 0, 0), -2);
        Check.due("new undone", x.undone(0, 0), -2);
        Check.due("new changes", x.changes(0, 0), -2);
        Check.due("new discord", x.discord(0), -2);
        Check.due("new peace", x.peace(0), -2);
        Check.due("new just", x.just(0), -2);
        Check.due("new seal", x.seal(0), -2);
        Check.due("new rest", x.rest(), -2);
        Check.due("new rests", x.rests(0), -2);
        Check.due("new sent", x.sent(0, 0), -2);
        Check.due("new cross", x.cross(), -2);
        Check.due("new meets", x.meets(0, 1), -2);
        Check.due("new matters", x.matters(0), -2);
        Check.due("new year", x.year(0, 0, 0), -2);
        Check.due("new years", x.years(0, 1, 0, 0, 0, -1, 0), -2);
        Check.due("new queen", x.queen(0, 1, 0, 0, 0), -2);
        Check.due("new delay", x.delay(0, 0, -1, 0, 0), -2);
    }

    private static void feed() {
        SlowOrder x = new SlowOrder();
        // "real", "m to", "wns ", "2 ho", "urs " and "5;  " with blanks
        Check.due("feed", x.feed(0x7265616c, 0x6d20746f, 0x776e7320, 0x3220686f, 0x75727320), 20);
        Check.due("feed", x.feed(0x353b2020, 0x20202020, 0x0a0a0a0a, 0x20202020, 0x20202020), 40);
        Check.due("realm of fed bytes", x.realm(), 1);
        Check.due("towns", x.count(0), 2);
        Check.due("hours", x.count(1), 5);
        for (int k = 1; k <= 100; k++) {
            Check.due("feed " + k, x.feed(0x20202020, 0, -1, 1 << 31, 0x20202020), 20 * k);
        }
        Check.due("feed too many", x.feed(0, 0, 0, 0, 0), -1);
        Check.due("tape stays", x.count(7), 2000);
        Check.due("end", x.end(1981), 1981);
        Check.due("feed too many by one", x.feed(0, 0, 0, 0, 0), -1);
        Check.due("tape stays", x.count(7), 1981);
        Check.due("end", x.end(1980), 1980);
        Check.due("feed just fits", x.feed(0, 0, 0, 0, 0), 2000);
    }

    private static void end() {
        SlowOrder x = new SlowOrder();
        Check.due("end(0) of nothing", x.end(0), 0);
        Check.due("end(1) of nothing", x.end(1), -1);
        Check.due("tape", Check.tape(x, "realm towns 2 hours 5; seal 7;"), 30);
        Check.due("end(-1)", x.end(-1), -1);
        Check.due("end(31)", x.end(31), -1);
        Check.due("nothing happens", x.count(7), 30);
        Check.due("end(30)", x.end(30), 30);
        Check.due("end(22)", x.end(22), 22);
        Check.due("what is cut is gone", x.end(23), -1);
        Check.due("first bytes alone", x.realm(), 1);
        Check.due("seal is cut", x.count(8), 99);
    }

    private static void realm() {
        SlowOrder x = new SlowOrder();
        Check.due("lines", Check.tell(x, UNDOES + "seal 5;wish 0 says 1 in 1 at 4;"), 8);
        Check.due("tape is empty", x.count(7), 0);
        Check.due("lines", x.count(6), 8);
        Check.due("roads", x.count(2), 2);
        Check.due("fault", Check.tell(x, "realm towns 3 hours 7"), -4);
        Check.due("tape is empty", x.count(7), 0);
        Check.due("realm stays", x.count(6), 8);
        Check.due("towns stay", x.count(0), 4);
        Check.due("orders stay", x.comes(0), 2);
        Check.due("seal stays", x.count(8), 5);
        Check.due("in place of another", Check.tell(x, "realm towns 3 hours 7;"), 1);
        Check.due("seal without", x.count(8), 99);
        Check.due("no orders", x.count(5), 0);
        Check.due("none from nothing", x.realm(), 0);
        Check.due("none", x.count(0), 0);
        Check.due("no seal", x.count(8), 0);
        Check.due("none from blanks", Check.tell(x, " \n  \n"), 0);
        Check.due("no fault", x.fault(0), 0);
        Check.tell(x, HEAD + "seal 3;seal 8;");
        Check.due("a later seal strikes", x.count(8), 8);
        Check.tell(x, SAYS + "wish 0 says 2 in 1 at 4;wish 0 says 1 in 1 at 4;");
        Check.due("a later wish strikes", x.wish(0), 1);
        Check.due("longest realm", Check.tell(x, "realm towns 2 hours 5;" + "seal 1;".repeat(282)), 283);
    }

    private static void fault() {
        SlowOrder x = new SlowOrder();
        Check.due("ahead of any", x.fault(0), 0);
        Check.due("ahead of any", x.fault(1), -1);
        Check.due("another what", x.fault(2), -1);
        Check.due("another what", x.fault(-1), -1);
        Check.tell(x, "realm towns 9");
        Check.due("fault", x.fault(0), 2);
        Check.due("place", x.fault(1), 12);
        Check.due("another what", x.fault(2), -1);
        Check.tell(x, HEAD);
        Check.due("without", x.fault(0), 0);
        Check.due("without", x.fault(1), -1);
    }

    private static void tokens() {
        SlowOrder x = new SlowOrder();
        Check.due("no blanks needed", Check.tell(x, "realm towns3hours\n5;seal007;"), 2);
        Check.due("leading zeros", x.count(8), 7);
        Check.refused("realmtowns 3 hours 5;", 1, 0);
        Check.refused("realmz towns 3 hours 5;", 1, 0);
        Check.refused("nealm towns 3 hours 5;", 1, 0);
        Check.refused("realn towns 3 hours 5;", 1, 0);
        Check.refused("real towns 3 hours 5;", 1, 0);
        Check.refusedAtEnd(HEAD + " zeal", 1);
        Check.refused("realm towns 3 hours 5\t;", 1, 21);
        Check.refused("realm towns 3 hourS 5;", 1, 14);
        Check.refused("Realm", 1, 0);
        Check.refused("realm towns -3 hours 5;", 1, 12);
        Check.refused("realm towns 3 hours 5;\u00e9", 1, 22);
        Check.refused("realm towns 3 hours 5;\u0000", 1, 22);
        Check.refused("realm towns 4294967299 hours 5;", 2, 12);
        Check.refused("realm towns 3 hours 18446744073709551621;", 2, 20);
        Check.refused("realm towns 3 hours 5,", 1, 21);
        // of two faults the first by its place
        Check.refused("realm towns 1 hours 5 A", 2, 12);
        Check.refused("A realm towns 1", 1, 0);
    }

    private static void misplaced() {
        Check.refused(";", 1, 0);
        Check.refused("  towns", 1, 2);
        Check.refused("7", 1, 0);
        Check.refused("road 0 to 1 hours 2;" + HEAD, 1, 0);
        Check.refused("seal 3;", 1, 0);
        Check.refused("realm", 1, 5);
        Check.refused("realm  \n", 1, 8);
        Check.refused("realm towns 3", 1, 13);
        Check.refused("realm towns 3 hours 5", 1, 21);
        Check.refused("realm towns 3 hours 5 5", 1, 22);
        Check.refused("realm towns hours 5;", 1, 12);
        Check.refused("realm hours 5 towns 3;", 1, 6);
        Check.refusedAtEnd(HEAD + " realm", 1);
        Check.refusedAtEnd(HEAD + " ;", 1);
        Check.refusedAtEnd(HEAD + " 3", 1);
        Check.refusedAtEnd(HEAD + " roads", 1);
        Check.refusedAtEnd(HEAD + " via", 1);
        Check.refusedAtEnd(HEAD + "road 0 1", 1);
        Check.refusedAtEnd(HEAD + "road 0 to ;", 1);
        Check.refusedAtEnd(HEAD + "road 0 to 1 ;", 1);
        Check.refusedAtEnd(HEAD + "road 0 to 1 hours 2 road", 1);
        Check.refusedAtEnd(ROADS + "flood 0 to 1 to", 1);
        Check.refusedAtEnd(ROADS + "flood 0 to 1 from 2 from", 1);
        Check.refusedAtEnd(ROADS + "rider rests", 1);
        Check.refusedAtEnd(ROADS + "rider pace 1 ;", 1);
        Check.refusedAtEnd(RIDER + "order 0", 1);
        Check.refusedAtEnd(RIDER + "order rider 0 says", 1);
        Check.refusedAtEnd(RIDER + "order rider 0 on 0 from", 1);
        Check.refusedAtEnd(RIDER + "order rider 0 on 0 says 1 says", 1);
        Check.refusedAtEnd(RIDER + "order rider 0 on 0 says 1 from 0 at", 1);
        Check.refusedAtEnd(RIDER + "order rider 0 on 0 says 1 from 0 to 1 ;", 1);
        Check.refusedAtEnd(RIDER + "order rider 0 on 0 says 1 from 0 to 1 at 0 0", 1);
        Check.refusedAtEnd(RIDER + "order rider 0 on 0 says 1 from 0 to 1 at 0 via ;", 1);
        Check.refusedAtEnd(RIDER + "order rider 0 on 0 says 1 from 0 to 1 at 0 via 1 via", 1);
        Check.refusedAtEnd(RIDER + "order rider 0 on 0 says 1 from 0 to 1 at 0 via 1 2 3 0", 1);
        Check.refusedAtEnd(RIDER + "order rider 0 on 0 says 1 from 0 to 1 at 0 via 1 2 3 99", 1);
        Check.refusedAtEnd(SAYS + "wish 0 undoes", 1);
        Check.refusedAtEnd(SAYS + "wish 0 says 1 at", 1);
        Check.refusedAtEnd(SAYS + "wish 0 says 1 in 1 ;", 1);
        Check.refusedAtEnd(SAYS + "seal ;", 1);
    }

    private static void outOfBounds() {
        Check.refusedAtEnd("realm towns 1", 2);
        Check.refusedAtEnd("realm towns 9", 2);
        Check.refusedAtEnd("realm towns 2 hours 4", 2);
        Check.refusedAtEnd("realm towns 2 hours 100", 2);
        Check.refusedAtEnd(HEAD + "road 4", 2);
        Check.refusedAtEnd(HEAD + "road 0 to 4", 2);
        Check.refusedAtEnd(HEAD + "road 0 to 0", 2);
        Check.refusedAtEnd(ROADS + "road 0 to 1", 2);
        Check.refusedAtEnd(ROADS + "road 1 to 0", 2);
        Check.refusedAtEnd(HEAD + "road 0 to 1 hours 0", 2);
        Check.refusedAtEnd(HEAD + "road 0 to 1 hours 21", 2);
        Check.refusedAtEnd(ROADS + "flood 4", 2);
        Check.refusedAtEnd(ROADS + "flood 0 to 2", 2);
        Check.refusedAtEnd(ROADS + "flood 0 to 0", 2);
        Check.refusedAtEnd(ROADS + "flood 0 to 9", 2);
        Check.refusedAtEnd(ROADS + "flood 0 to 1 from 20", 2);
        Check.refusedAtEnd(ROADS + "flood 0 to 1 from 5 to 4", 2);
        Check.refusedAtEnd(ROADS + "flood 0 to 1 from 5 to 20", 2);
        Check.refusedAtEnd(ROADS + "rider pace 0", 2);
        Check.refusedAtEnd(ROADS + "rider pace 10", 2);
        Check.refusedAtEnd(ROADS + "rider pace 1 rests 21", 2);
        Check.refusedAtEnd(ROADS + "order rider 0", 2);
        Check.refusedAtEnd(RIDER + "order rider 1", 2);
        Check.refusedAtEnd(RIDER + "order rider 0 on 3", 2);
        Check.refusedAtEnd(RIDER + "order rider 0 on 0 says 10", 2);
        Check.refusedAtEnd(RIDER + "order rider 0 on 0 undoes 0", 2);
        Check.refusedAtEnd(SAYS + "order rider 0 on 0 undoes 1", 2);
        Check.refusedAtEnd(RIDER + "order rider 0 on 0 says 1 from 4", 2);
        Check.refusedAtEnd(RIDER + "order rider 0 on 0 says 1 from 0 to 4", 2);
        Check.refusedAtEnd(RIDER + "order rider 0 on 0 says 1 from 2 to 2", 2);
        Check.refusedAtEnd(RIDER + "order rider 0 on 0 says 1 from 0 to 2 at 20", 2);
        Check.refusedAtEnd(RIDER + "order rider 0 on 0 says 1 from 0 to 2 at 0 via 4", 2);
        Check.refusedAtEnd(RIDER + "order rider 0 on 0 says 1 from 0 to 2 at 0 via 1 2 4", 2);
        Check.refusedAtEnd(RIDER + "wish 0", 2);
        Check.refusedAtEnd(SAYS + "wish 1", 2);
        Check.refusedAtEnd(UNDOES + "wish 1", 2);
        Check.refusedAtEnd(SAYS + "wish 0 says 10", 2);
        Check.refusedAtEnd(SAYS + "wish 0 says 1 in 4", 2);
        Check.refusedAtEnd(SAYS + "wish 0 says 1 in 1 at 20", 2);
        Check.refusedAtEnd(SAYS + "seal 100", 2);
    }

    private static String roads(int n) {
        StringBuilder s = new StringBuilder("realm towns 8 hours 20;");
        int told = 0;
        for (int a = 0; a < 8; a++) {
            for (int b = 0; b < a && told < n; b++) {
                s.append("road ").append(a).append(" to ").append(b).append(" hours 1;");
                told++;
            }
        }
        return s.toString();
    }

    private static void tooMany() {
        SlowOrder x = new SlowOrder();
        String order = "order rider 0 on 0 says 1 from 0 to 1 at 0;";
        Check.due("12 roads", Check.tell(x, roads(12)), 13);
        Check.due("12 roads", x.count(2), 12);
        Check.refusedAtEnd(roads(12) + " road", 3);
        Check.refused(roads(12) + "road 0 to 0 ;", 3, roads(12).length());
        Check.due("8 floods", Check.tell(x, ROADS + "flood 0 to 1 from 1 to 2;".repeat(8)), 11);
        Check.due("8 floods", x.count(3), 8);
        Check.refusedAtEnd(ROADS + "flood 0 to 1 from 1 to 2;".repeat(8) + " flood", 3);
        Check.due("6 riders", Check.tell(x, HEAD + "rider pace 1 rests 0;".repeat(6)), 7);
        Check.due("6 riders", x.count(4), 6);
        Check.refusedAtEnd(HEAD + "rider pace 1 rests 0;".repeat(6) + " rider", 3);
        Check.due("10 orders", Check.tell(x, RIDER + order.repeat(10)), 14);
        Check.due("10 orders", x.count(5), 10);
        Check.refusedAtEnd(RIDER + order.repeat(10) + " order", 3);
        // the first by place, too many or not
        Check.refused(RIDER + "seal 100;" + order.repeat(11), 2, RIDER.length() + 5);
    }

    private static void bounds() {
        SlowOrder x = Check.told("realm towns 2 hours 5;road 0 to 1 hours 1;flood 1 to 0 from 0 to 4;"
            + "rider pace 1 rests 0;order rider 0 on 0 says 0 from 1 to 0 at 4 via 0;wish 0 says 0 in 0 at 0;seal 0;");
        Check.due("least hours", x.count(1), 5);
        x = Check.told("realm towns 8 hours 99;road 7 to 6 hours 20;flood 7 to 6 from 98 to 98;"
            + "rider pace 9 rests 20;order rider 0 on 2 says 9 from 7 to 6 at 98 via 7 7 7;"
            + "order rider 0 on 2 undoes 0 from 7 to 6 at 98 via 6 7 6;wish 0 says 9 in 7 at 98;seal 99;");
        Check.due("most hours", x.count(1), 99);
        Check.due("most towns", x.count(0), 8);
    }
}
