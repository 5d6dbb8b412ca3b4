/** Promises 40 to 45: count, image, restore, row, write, paste. */
public final class StateTest {
    private static final String LAND = "realm towns 3 hours 20;road 0 to 1 hours 2;road 1 to 2 hours 2;"
        + "flood 0 to 1 from 9 to 11;rider pace 1 rests 0;order rider 0 on 0 says 5 from 0 to 1 at 0;"
        + "order rider 0 on 0 says 6 from 0 to 1 at 3;wish 0 says 5 in 1 at 9;seal 17;";

    public static void main(String[] args) {
        count();
        images();
        imageOfNone();
        imagesAreApart();
        row();
        write();
        paste();
        pasteOnItself();
        pasteRefused();
        Check.finish();
    }

    private static void count() {
        SlowOrder x = Check.told(LAND);
        int[] due = {3, 20, 2, 1, 1, 2, 9, 0, 17, 0};
        for (int what = 0; what < due.length; what++) {
            Check.due("count(" + what + ")", x.count(what), due[what]);
        }
        Check.due("count", x.count(10), -1);
        Check.due("count", x.count(-1), -1);
        x.feed(0, 0, 0, 0, 0);
        Check.due("tape", x.count(7), 20);
        x.row(0, 0, 0);
        x.row(3, 1, 60);
        x.row(3, 2, 5);
        Check.due("slots", x.count(9), 2);
        x.end(0);
        x.realm();
        int[] none = {0, 0, 0, 0, 0, 0, 0, 0, 0, 2};
        for (int what = 0; what < none.length; what++) {
            Check.due("without a realm count(" + what + ")", x.count(what), none[what]);
        }
    }

    private static void images() {
        SlowOrder x = Check.told(LAND);
        Check.due("nothing", x.restore(0), -6);
        Check.due("no such k", x.image(3), -2);
        Check.due("no such k", x.image(-1), -2);
        Check.due("no such k", x.restore(3), -2);
        Check.due("no such k", x.restore(-1), -2);
        Check.due("image", x.image(0), 0);
        x.sends(0, 7);
        x.seal(4);
        Check.due("image", x.image(2), 0);
        Check.due("nothing", x.restore(1), -6);
        Check.tell(x, "realm towns 5 hours 9;");
        Check.due("restore", x.restore(0), 0);
        Check.due("lines", x.count(6), 9);
        Check.due("towns", x.count(0), 3);
        Check.due("seal", x.count(8), 17);
        Check.due("hour", x.order(0, 6), 0);
        Check.due("comes", x.comes(0), 2);
        Check.due("way", x.way(0, 2, 1), 1);
        Check.due("wish", x.wish(0), 0);
        Check.due("latest, by the seal", x.latest(0, 19), 15);
        Check.due("by the floods told", x.latest(0, 13), 8);
        Check.due("restore", x.restore(2), 0);
        Check.due("seal", x.count(8), 4);
        Check.due("hour", x.order(0, 6), 7);
        Check.due("comes", x.comes(0), 9);
        Check.due("behind the seal", x.holds(1, 0, 19), -1);
        Check.due("an image may be gone back to again", x.restore(0), 0);
        Check.due("hour", x.order(0, 6), 0);
        Check.due("another image in place", x.image(2), 0);
        x.seal(3);
        x.restore(2);
        Check.due("seal", x.count(8), 17);
    }

    private static void imageOfNone() {
        SlowOrder x = new SlowOrder();
        Check.due("image of none", x.image(1), 0);
        Check.tell(x, LAND);
        Check.due("restore none", x.restore(1), 0);
        Check.due("towns", x.count(0), 0);
        Check.due("seal", x.count(8), 0);
        Check.due("comes", x.comes(0), -2);
        Check.due("rest", x.rest(), -2);
    }

    private static void imagesAreApart() {
        SlowOrder x = Check.told(LAND);
        Check.tape(x, "realm towns 9");
        x.row(0, 0, 3);
        x.image(0);
        x.realm();
        x.row(1, 0, 3);
        x.restore(0);
        Check.due("the tape is not kept", x.count(7), 0);
        Check.due("nor slots", x.count(9), 2);
        Check.due("nor faults", x.fault(0), 2);
        // another realm behind the image: what is learnt of it is not held for the other's
        x.latest(0, 19);
        Check.tell(x, LAND.replace("road 0 to 1 hours 2", "road 0 to 1 hours 7"));
        Check.due("latest", x.latest(0, 8), 1);
        x.restore(0);
        Check.due("latest", x.latest(1, 8), 6);
    }

    private static void row() {
        SlowOrder x = Check.told(LAND);
        Check.due("no such slot", x.row(4, 0, 0), -2);
        Check.due("no such slot", x.row(-1, 0, 0), -2);
        Check.due("no such width", x.row(0, 4, 0), -2);
        Check.due("no such width", x.row(0, -1, 0), -2);
        Check.due("too long", x.row(0, 0, 61), -2);
        Check.due("below 0", x.row(0, 0, -1), -3);
        Check.due("no such slot, below 0", x.row(4, 0, -1), -2);
        Check.due("no such width, below 0", x.row(0, 4, -1), -2);
        Check.due("none has a row", x.count(9), 0);
        Check.due("longest", x.row(0, 3, 60), 0);
        Check.due("shortest", x.row(1, 0, 0), 0);
        Check.due("two", x.count(9), 2);
        Check.row(x, 2, 0, 1, 0, 2, 5);
        Check.due("agree", x.agree(2, 0), 1);
        Check.due("below 0", x.row(2, 0, -1), -3);
        Check.due("the slot stays", x.agree(2, 0), 1);
        Check.due("too long", x.row(2, 0, 61), -2);
        Check.due("the slot stays", x.agree(2, 0), 1);
        Check.due("another", x.row(2, 0, 4), 0);
        Check.due("all 0: never held", x.agree(2, 0), 0);
        Check.due("its fourth", x.write(2, 3, -1), 0);
        Check.due("the others are 0", x.agree(2, 0), 20);
    }

    private static void write() {
        SlowOrder x = Check.told(LAND);
        Check.due("no such slot", x.write(4, 0, 0), -2);
        Check.due("no such slot", x.write(-1, 0, 0), -2);
        Check.due("nothing", x.write(0, 0, 0), -6);
        x.row(0, 0, 4);
        Check.due("no such number", x.write(0, 4, 0), -7);
        Check.due("no such number", x.write(0, -1, 0), -7);
        Check.due("last", x.write(0, 3, 0), 0);
        Check.due("longest", x.write(0, 0, Long.MIN_VALUE), 0);
        x.row(1, 3, 0);
        Check.due("empty", x.write(1, 0, 0), -7);
    }

    private static void paste() {
        SlowOrder x = Check.told(LAND);
        Check.row(x, 0, 0, 9, 9, 1, 0, 2, 5, 9);
        Check.row(x, 1, 0, 1, 0, 1, -1, 8, 8, 8, 8);
        Check.due("paste", x.paste(0, 2, 1, 4, 4), 0);
        Check.due("both are seen", x.agree(1, 0), 1);
        Check.due("sent at 0", x.when(1, 0, 0), 0);
        Check.due("the last one", x.paste(0, 6, 1, 7, 1), 0);
        Check.due("never held", x.agree(1, 0), 0);
        Check.due("none of them", x.paste(0, 7, 1, 8, 0), 0);
        Check.due("all", x.paste(0, 0, 0, 0, 7), 0);
        for (int width = 0; width < 4; width++) {
            Check.row(x, 2, width, 1, 0, 2, 5);
            x.row(3, width, 4);
            Check.due("of one width", x.paste(2, 0, 3, 0, 4), 0);
            Check.due("as they were", x.agree(3, 0), 1);
            Check.due("and stay", x.agree(2, 0), 1);
        }
    }

    private static void pasteOnItself() {
        SlowOrder x = Check.told(LAND);
        // one ahead: 1 0 2 5 from place 1 on to place 0 on, and back
        Check.row(x, 0, 0, 7, 1, 0, 2, 5);
        Check.due("ahead", x.paste(0, 1, 0, 0, 4), 0);
        x.row(1, 0, 4);
        x.paste(0, 0, 1, 0, 4);
        Check.due("as they were", x.agree(1, 0), 1);
        Check.due("behind", x.paste(0, 0, 0, 1, 4), 0);
        x.row(1, 0, 4);
        x.paste(0, 1, 1, 0, 4);
        Check.due("as they were", x.agree(1, 0), 1);
    }

    private static void pasteRefused() {
        SlowOrder x = Check.told(LAND);
        x.row(0, 0, 4);
        x.row(1, 1, 4);
        x.row(3, 0, 2);
        Check.due("no such slot", x.paste(4, 0, 0, 0, 0), -2);
        Check.due("no such slot", x.paste(0, 0, 4, 0, 0), -2);
        Check.due("no such slot", x.paste(-1, 0, 2, 0, 0), -2);
        Check.due("no such slot", x.paste(2, 0, -1, 0, 0), -2);
        Check.due("nothing", x.paste(2, 0, 0, 0, 0), -6);
        Check.due("nothing", x.paste(0, 0, 2, 9, 9), -6);
        Check.due("not of one width", x.paste(0, 0, 1, 0, 1), -8);
        Check.due("not of one width, beyond", x.paste(0, 9, 1, 0, -1), -8);
        int big = Integer.MAX_VALUE;
        int[][] beyond = {{0, 0, 3}, {3, 0, 2}, {0, 1, 2}, {5, 0, 0}, {0, 3, 0}, {-1, 0, 1}, {0, -1, 1}, {0, 0, -1},
            {-1, 0, 0}, {0, -1, 0}, {big, 0, 1}, {1, 0, big}, {big, 0, big}, {1, 1, -big}, {0, big, 1}};
        Check.row(x, 3, 0, 1, 2);
        for (int[] b : beyond) {
            Check.due("beyond " + b[0] + " " + b[1] + " " + b[2], x.paste(0, b[0], 3, b[1], b[2]), -7);
        }
        Check.due("at their ends", x.paste(0, 4, 3, 2, 0), 0);
        Check.due("the last", x.paste(0, 3, 3, 1, 1), 0);
        Check.row(x, 0, 0, 1, 0, 2, 5);
        Check.due("beyond", x.paste(0, 1, 0, 2, 3), -7);
        Check.due("nothing happens", x.agree(0, 0), 1);
    }
}
