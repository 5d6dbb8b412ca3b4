/** Promises 12 to 19: holds, whose, undone, changes, discord, peace, just, seal. */
public final class HoldTest {
    // 0 - 1 - 2 in a row, three hours each
    private static final String LAND = "realm towns 3 hours 20;road 0 to 1 hours 3;road 1 to 2 hours 3;"
        + "rider pace 1 rests 0;rider pace 2 rests 0;";

    public static void main(String[] args) {
        theLaterHolds();
        things();
        undoing();
        undoingOfUndoing();
        undoneWhereBothAre();
        changes();
        discord();
        just();
        seal();
        wrong();
        Check.finish();
    }

    private static String says(int rider, int thing, int says, int from, int to, int hour) {
        return "order rider " + rider + " on " + thing + " says " + says + " from " + from + " to " + to
            + " at " + hour + ";";
    }

    private static String undoes(int rider, int thing, int undoes, int from, int to, int hour) {
        return says(rider, thing, undoes, from, to, hour).replace("says", "undoes");
    }

    private static void held(SlowOrder x, int town, int thing, int hour, int says, int whose) {
        Check.due("holds(" + town + ", " + thing + ", " + hour + ")", x.holds(town, thing, hour), says);
        Check.due("whose(" + town + ", " + thing + ", " + hour + ")", x.whose(town, thing, hour), whose);
    }

    private static void theLaterHolds() {
        // 0 is sent first by the slow rider, 1 behind it by the swift one
        SlowOrder x = Check.told(LAND + says(1, 0, 4, 0, 1, 0) + says(0, 0, 7, 0, 1, 1));
        held(x, 1, 0, 3, -1, -1);
        held(x, 1, 0, 4, 7, 1);
        held(x, 1, 0, 5, 7, 1);
        held(x, 1, 0, 6, 4, 0);
        held(x, 1, 0, 19, 4, 0);
        held(x, 0, 0, 19, -1, -1);
        held(x, 2, 0, 19, -1, -1);
        // of one hour that with the greater number
        x = Check.told(LAND + says(0, 0, 4, 0, 1, 3) + says(1, 0, 7, 2, 1, 0));
        held(x, 1, 0, 6, 7, 1);
        x = Check.told(LAND + says(1, 0, 7, 2, 1, 0) + says(0, 0, 4, 0, 1, 3));
        held(x, 1, 0, 6, 4, 1);
        // one that comes in the last hour, one behind it
        x = Check.told(LAND + says(0, 0, 0, 0, 1, 16) + says(0, 0, 7, 0, 1, 17));
        held(x, 1, 0, 19, 0, 0);
    }

    private static void things() {
        SlowOrder x = Check.told(LAND + says(0, 0, 4, 0, 1, 0) + says(0, 1, 5, 0, 1, 2) + says(0, 2, 6, 0, 1, 4));
        held(x, 1, 0, 19, 4, 0);
        held(x, 1, 1, 19, 5, 1);
        held(x, 1, 2, 19, 6, 2);
        held(x, 1, 1, 4, -1, -1);
        held(x, 1, 1, 5, 5, 1);
    }

    private static void undoing() {
        SlowOrder x = Check.told(LAND + says(0, 0, 4, 0, 1, 0) + says(0, 0, 5, 0, 1, 1)
            + undoes(0, 2, 1, 0, 1, 6));
        held(x, 1, 0, 8, 5, 1);
        held(x, 1, 0, 9, 4, 0);
        Check.due("not yet", x.undone(1, 8), 0);
        Check.due("undone", x.undone(1, 9), 2);
        Check.due("elsewhere not", x.undone(2, 9), 0);
        // the one that undoes may be there ahead
        x = Check.told(LAND + says(1, 0, 4, 0, 1, 0) + undoes(0, 0, 0, 0, 1, 0));
        Check.due("not there yet", x.undone(1, 5), 0);
        Check.due("undone as it comes", x.undone(1, 6), 1);
        held(x, 1, 0, 6, -1, -1);
        Check.due("it never changes", x.changes(1, 0), 0);
    }

    private static void undoingOfUndoing() {
        SlowOrder x = Check.told(LAND + says(0, 0, 4, 0, 1, 0) + undoes(0, 0, 0, 0, 1, 1)
            + undoes(0, 1, 1, 0, 1, 2) + undoes(0, 1, 2, 0, 1, 3) + undoes(0, 1, 1, 0, 1, 4));
        int[] bits = {0, 0, 0, 0, 1, 2, 4 + 1, 4 + 2, 4 + 2};
        int[] holds = {-1, -1, -1, 4, -1, 4, -1, 4, 4};
        for (int hour = 0; hour < bits.length; hour++) {
            Check.due("undone(1, " + hour + ")", x.undone(1, hour), bits[hour]);
            Check.due("holds(1, 0, " + hour + ")", x.holds(1, 0, hour), holds[hour]);
        }
        Check.due("changes", x.changes(1, 0), 5);
    }

    private static void undoneWhereBothAre() {
        // the undoing comes to another town
        SlowOrder x = Check.told(LAND + says(0, 0, 4, 0, 1, 0) + undoes(0, 0, 0, 1, 2, 0)
            + says(0, 0, 5, 1, 2, 1));
        Check.due("not undone", x.undone(1, 19), 0);
        Check.due("nor there", x.undone(2, 19), 0);
        held(x, 1, 0, 19, 4, 0);
        held(x, 2, 0, 19, 5, 2);
    }

    private static void changes() {
        SlowOrder x = Check.told(LAND + says(0, 0, 4, 0, 1, 0) + says(0, 0, 4, 0, 1, 1) + says(0, 0, 5, 0, 1, 2)
            + says(0, 0, 4, 0, 1, 16));
        Check.due("same said again is no change", x.changes(1, 0), 3);
        Check.due("nothing changes", x.changes(0, 0), 0);
        Check.due("another thing", x.changes(1, 1), 0);
        x.sends(3, 17);
        Check.due("beyond the last hour", x.changes(1, 0), 2);
    }

    private static void discord() {
        // 1 hears 4 at 3, 0 hears 4 at 8, 2 hears 4 at 10
        SlowOrder x = Check.told(LAND + says(0, 0, 4, 0, 1, 0) + says(0, 0, 4, 1, 0, 5) + says(0, 0, 4, 1, 2, 7));
        Check.due("hours by roads", x.discord(0), 2 * 5 + 2);
        Check.due("peace", x.peace(0), 10);
        Check.due("nothing is like nothing", x.discord(1), 0);
        Check.due("peace from the first hour on", x.peace(1), 0);
        x.sends(2, 19);
        Check.due("to the end", x.discord(0), 2 * 5 + 12);
        Check.due("none", x.peace(0), -1);
        // two that are told unlike things
        x = Check.told(LAND + says(0, 0, 4, 0, 1, 0) + says(0, 0, 5, 1, 0, 0) + says(0, 0, 4, 1, 0, 16));
        Check.due("discord", x.discord(0), 16 + 17);
        x = Check.told("realm towns 2 hours 9;road 0 to 1 hours 1;rider pace 1 rests 0;"
            + says(0, 0, 4, 0, 1, 7) + says(0, 0, 4, 1, 0, 7));
        Check.due("none at all", x.discord(0), 0);
        Check.due("in the last hour both", x.holds(0, 0, 8), 4);
        x.sends(1, 6);
        Check.due("the last but one", x.discord(0), 1);
        Check.due("peace in the last hour", x.peace(0), 8);
        x.sends(1, 8);
        Check.due("the last", x.discord(0), 1);
        Check.due("no peace", x.peace(0), -1);
    }

    private static void just() {
        // nobody comes in hour 0: behind a seal of 0 there is no discord
        SlowOrder x = Check.told(LAND + says(0, 0, 4, 0, 1, 0) + says(0, 0, 4, 1, 0, 5) + "seal 9;");
        Check.due("just", x.just(0), 0);
        Check.due("of a quiet thing", x.just(1), 0);
        Check.due("the seal stays", x.count(8), 9);
        Check.due("what holds stays", x.holds(0, 0, 19), 4);
        Check.due("discord stays", x.discord(0), 17 + 5);
    }

    private static void seal() {
        SlowOrder x = Check.told(LAND + says(0, 0, 4, 0, 1, 0) + says(0, 0, 5, 0, 1, 4) + undoes(0, 1, 1, 0, 1, 8));
        Check.due("without", x.seal(7), 99);
        held(x, 1, 0, 19, 5, 1);
        Check.due("undone behind the seal", x.undone(1, 19), 0);
        Check.due("it was", x.seal(6), 7);
        held(x, 1, 0, 19, 4, 0);
        x.seal(11);
        Check.due("no later than the seal", x.undone(1, 19), 2);
        x.seal(2);
        held(x, 1, 0, 19, -1, -1);
        Check.due("comes all the same", x.comes(0), 3);
        Check.due("too large", x.seal(100), -2);
        Check.due("below", x.seal(-1), -2);
        Check.due("stays", x.seal(0), 2);
        Check.due("least", x.seal(99), 0);
        Check.due("greatest", x.count(8), 99);
        x = Check.told(LAND + says(0, 0, 4, 0, 1, 0) + "seal 2;");
        Check.due("told seal", x.discord(0), 0);
    }

    private static void wrong() {
        SlowOrder x = Check.told(LAND + says(0, 0, 4, 0, 1, 0));
        int[][] bad = {{3, 0, 0}, {-1, 0, 0}, {0, 3, 0}, {0, -1, 0}, {0, 0, 20}, {0, 0, -1}};
        for (int[] b : bad) {
            Check.due("holds", x.holds(b[0], b[1], b[2]), -2);
            Check.due("whose", x.whose(b[0], b[1], b[2]), -2);
        }
        Check.due("undone", x.undone(3, 0), -2);
        Check.due("undone", x.undone(0, 20), -2);
        Check.due("undone", x.undone(-1, 0), -2);
        Check.due("undone", x.undone(0, -1), -2);
        Check.due("changes", x.changes(3, 0), -2);
        Check.due("changes", x.changes(0, 3), -2);
        Check.due("changes", x.changes(-1, 0), -2);
        Check.due("changes", x.changes(0, -1), -2);
        for (int thing = -1; thing < 4; thing += 4) {
            Check.due("discord", x.discord(thing), -2);
            Check.due("peace", x.peace(thing), -2);
            Check.due("just", x.just(thing), -2);
        }
    }
}
