/** Promises 40 to 45 and the SLOTS of Term I: the sentences that name a boundary case; and what bounds the calls. */
final class StateEdges {
    private static final String LAND = "realm towns 3 hours 20;road 0 to 1 hours 2;road 1 to 2 hours 2;"
        + "flood 0 to 1 from 9 to 11;rider pace 1 rests 0;order rider 0 on 0 says 5 from 0 to 1 at 0;"
        + "order rider 0 on 0 says 6 from 0 to 1 at 3;wish 0 says 5 in 1 at 9;seal 17;";
    private static final int MOST = Integer.MAX_VALUE;
    private static final int LEAST = Integer.MIN_VALUE;

    private StateEdges() {
    }

    static void all() {
        count();
        countNone();
        countWithout();
        imageKeeps();
        imageOfNone();
        imageInPlace();
        imageHasNothing();
        noSuchImage();
        rowInPlace();
        noSuchRow();
        rowBelowNone();
        writeCut();
        noSuchWrite();
        pasteWhole();
        pasteAsTheyWere();
        pasteNone();
        pasteBeyond();
        noSuchPaste();
        pasteNotOfOneWidth();
        lastCalls();
    }

    /** What numbers a row has is seen by what it tells: that in town, about thing 0, at hour this held. */
    private static boolean isSeen(SlowOrder x, int slot, int times) {
        return x.agree(slot, 0) == times;
    }

    // ---- promise 40 ----

    private static void count() {
        Check.promise(40, "0 towns, 1 hours, 2 ROADS, 3 FLOODS, 4 RIDERS, 5 ORDERS, 6 LINES, 7 bytes of the TAPE, "
            + "8 the seal, 9 SLOTS that have a row");
        SlowOrder x = Check.told(LAND);
        int[] due = {3, 20, 2, 1, 1, 2, 9, 0, 17, 0};
        for (int what = 0; what < due.length; what++) {
            Check.due("count(" + what + ")", x.count(what), due[what]);
        }
        x.feed(0, 0, 0, 0, 0);
        Check.due("bytes of the TAPE", x.count(7), 20);
        x.end(3);
        Check.due("bytes of the TAPE", x.count(7), 3);
        x.seal(0);
        Check.due("the seal", x.count(8), 0);
        for (int slot = 0; slot < 4; slot++) {
            x.row(slot, slot, slot == 0 ? 0 : 60);
            Check.due("SLOTS that have a row", x.count(9), slot + 1);
        }
        x.row(2, 0, 0);
        Check.due("in place of another", x.count(9), 4);
    }

    private static void countNone() {
        Check.promise(40, "NONE for others");
        SlowOrder x = Check.told(LAND);
        SlowOrder none = new SlowOrder();
        int[] others = {10, 11, 99, -1, MOST, LEAST};
        for (int what : others) {
            Check.due("count(" + what + ")", x.count(what), -1);
            Check.due("no realm, count(" + what + ")", none.count(what), -1);
        }
    }

    private static void countWithout() {
        Check.promise(40, "0 without a REALM");
        SlowOrder x = Check.told(LAND);
        x.realm();
        for (int what = 0; what <= 9; what++) {
            Check.due("count(" + what + ")", x.count(what), 0);
        }
        x.row(1, 0, 4);
        x.feed(0, 0, 0, 0, 0);
        Check.due("a SLOT's row is none of the REALM", x.count(9), 1);
        Check.due("nor is the TAPE", x.count(7), 20);
        Check.due("the seal is", x.count(8), 0);
    }

    // ---- promises 41 and 42 ----

    private static void imageKeeps() {
        Check.promise(41, "IMAGE k (0 .. 2) keeps the REALM, HOURS of ORDERS, the seal: 0");
        SlowOrder x = Check.told(LAND);
        x.sends(1, 4);
        x.seal(15);
        for (int k = 0; k < 3; k++) {
            Check.due("image(" + k + ")", x.image(k), 0);
            x.sends(1, 5 + k);
            x.seal(16 + k);
        }
        Check.tell(x, "realm towns 5 hours 9;road 0 to 4 hours 1;");
        Check.promise(42, "These are as IMAGE k has them: 0");
        for (int k = 2; k >= 0; k--) {
            Check.due("restore(" + k + ")", x.restore(k), 0);
            Check.due("its HOUR", x.order(1, 6), 4 + k);
            Check.due("as told", x.order(0, 6), 0);
            Check.due("it comes", x.comes(1), 6 + k);
            Check.due("the seal", x.count(8), 15 + k);
            Check.due("lines", x.count(6), 9);
            Check.due("roads", x.hours(0, 2), 4);
            Check.due("no other's roads", x.hours(0, 4), -2);
            Check.due("wish", x.wish(0), 0);
            Check.due("floods", x.latest(1, 13), 8);
            Check.due("holds", x.holds(1, 0, 5 + k), 5);
            Check.due("holds", x.holds(1, 0, 6 + k), 6);
            // what is done behind it leaves the IMAGE as it is
            x.sends(0, 19);
            x.seal(1);
            Check.due("again", x.restore(k), 0);
            Check.due("as told", x.order(0, 6), 0);
            Check.due("the seal", x.count(8), 15 + k);
            x.realm();
            Check.tell(x, LAND);
        }
    }

    private static void imageOfNone() {
        Check.promise(41, "keeps the REALM");
        SlowOrder x = new SlowOrder();
        Check.due("of none", x.image(1), 0);
        Check.tell(x, LAND);
        Check.due("of one", x.image(0), 0);
        Check.promise(42, "These are as IMAGE k has them: 0");
        Check.due("none again", x.restore(1), 0);
        Check.due("no towns", x.count(0), 0);
        Check.due("no seal", x.count(8), 0);
        Check.due("no seal", x.seal(3), -2);
        Check.due("no orders", x.comes(0), -2);
        Check.due("no peace", x.peace(0), -2);
        Check.due("the one again", x.restore(0), 0);
        Check.due("towns", x.count(0), 3);
        Check.due("comes", x.comes(1), 5);
        Check.due("the seal", x.count(8), 17);
    }

    private static void imageInPlace() {
        Check.promise(41, "keeps the REALM, HOURS of ORDERS, the seal");
        SlowOrder x = Check.told(LAND);
        x.image(0);
        x.sends(0, 6);
        Check.due("in place of the one before", x.image(0), 0);
        x.sends(0, 7);
        x.restore(0);
        Check.due("the later one", x.order(0, 6), 6);
        // not the TAPE, the SLOTS or the FAULT
        Check.tell(x, "realm towns 9");
        Check.row(x, 0, 0, 1, 0, 4, -1);
        x.image(1);
        Check.row(x, 0, 0, 1, 0, 19, 6);
        x.feed(0, 0, 0, 0, 0);
        x.row(1, 0, 0);
        x.restore(1);
        Check.due("the TAPE", x.count(7), 20);
        Check.due("SLOTS", x.count(9), 2);
        Check.due("a row's numbers", x.agree(0, 0), 8);
        Check.due("FAULT", x.fault(0), 2);
        Check.due("its place", x.fault(1), 12);
    }

    private static void imageHasNothing() {
        Check.promise(42, "-6: it has nothing");
        for (int kept = 0; kept < 3; kept++) {
            SlowOrder x = Check.told(LAND);
            x.image(kept);
            x.sends(0, 9);
            for (int k = 0; k < 3; k++) {
                if (k != kept) {
                    Check.due("restore(" + k + ")", x.restore(k), -6);
                    Check.due("nothing happens", x.order(0, 6), 9);
                }
            }
            Check.due("restore(" + kept + ")", x.restore(kept), 0);
            Check.due("its HOUR", x.order(0, 6), 0);
        }
    }

    private static void noSuchImage() {
        SlowOrder x = Check.told(LAND);
        int[] bad = {3, 4, -1, MOST, LEAST};
        for (int k : bad) {
            Check.promise(41, "-2: no such k");
            Check.due("image(" + k + ")", x.image(k), -2);
            Check.promise(42, "-2: no such k; -6: it has nothing");
            Check.due("restore(" + k + ")", x.restore(k), -2);
        }
        for (int k = 0; k < 3; k++) {
            Check.due("restore(" + k + ")", x.restore(k), -6);
        }
    }

    // ---- promise 43 ----

    private static void rowInPlace() {
        Check.promise(43, "A SLOT (0 .. 3) has a row of n numbers of a WIDTH, all 0 (in place of another one): 0");
        SlowOrder x = Check.told(LAND);
        for (int slot = 0; slot < 4; slot++) {
            for (int width = 0; width < 4; width++) {
                Check.row(x, slot, width, 1, 0, 2, 5, 1, 0, 1, -1);
                Check.due("sent at 0", x.agree(slot, 0), 1);
                Check.due("longer", x.row(slot, width, 12), 0);
                Check.due("all 0, which never held", x.agree(slot, 0), 0);
                x.write(slot, 3, -1);
                x.write(slot, 7, -1);
                x.write(slot, 11, -1);
                Check.due("all others 0", x.agree(slot, 0), 20);
            }
        }
        Check.term("I", "at most 60, or nothing");
        Check.due("the longest", x.row(3, 3, 60), 0);
        Check.due("its last", x.write(3, 59, 1), 0);
        Check.due("no more", x.write(3, 60, 1), -7);
        Check.due("the shortest", x.row(3, 3, 0), 0);
        Check.due("none in it", x.write(3, 0, 1), -7);
        Check.due("but it is a row", x.agree(3, 0), 20);
        Check.due("the longest again", x.row(3, 0, 60), 0);
        Check.due("all 0", x.forged(3), 0);
    }

    private static void stays(SlowOrder x) {
        Check.due("the SLOT stays", x.agree(2, 0), 1);
        Check.due("no other has a row", x.count(9), 1);
    }

    private static void noSuchRow() {
        Check.promise(43, "-2: there is no such SLOT or WIDTH (0 .. 3), or n is above 60");
        SlowOrder x = Check.told(LAND);
        Check.row(x, 2, 0, 1, 0, 2, 5);
        int[][] bad = {{4, 0, 4}, {5, 0, 4}, {-1, 0, 4}, {MOST, 0, 4}, {LEAST, 0, 4}, {2, 4, 4}, {2, 5, 4}, {2, -1, 4},
            {2, MOST, 4}, {2, LEAST, 4}, {2, 0, 61}, {2, 0, 64}, {2, 0, MOST}, {4, 0, 61}, {2, 4, 61}, {4, 0, -1},
            {2, 4, -1}, {-1, 0, LEAST}};
        for (int[] b : bad) {
            Check.due("row(" + b[0] + ", " + b[1] + ", " + b[2] + ")", x.row(b[0], b[1], b[2]), -2);
            stays(x);
        }
    }

    private static void rowBelowNone() {
        Check.promise(43, "-3, and the SLOT stays: n is below 0");
        SlowOrder x = Check.told(LAND);
        Check.row(x, 2, 0, 1, 0, 2, 5);
        int[] below = {-1, -2, -60, LEAST};
        for (int n : below) {
            Check.due("row(2, 0, " + n + ")", x.row(2, 0, n), -3);
            stays(x);
            Check.due("row(2, 3, " + n + ")", x.row(2, 3, n), -3);
            stays(x);
            Check.due("row(1, 0, " + n + ")", x.row(1, 0, n), -3);
            stays(x);
        }
        Check.due("its WIDTH stays", x.write(2, 0, 257), 0);
        stays(x);
    }

    // ---- promise 44 ----

    private static void writeCut() {
        Check.promise(44, "Number i of the SLOT's row is v, cut to its WIDTH: 0");
        SlowOrder x = Check.told(LAND);
        for (int width = 0; width < 4; width++) {
            int bits = 8 << width;
            long over = bits < 64 ? 1L << bits : 0;
            Check.row(x, 0, width, 1 + over, over, 2 - over, 5 + over);
            Check.due("what is over is cut, width " + width, x.agree(0, 0), 1);
            Check.row(x, 0, width, 1, 0, 1, over - 1);
            Check.due("all bits are nothing, width " + width, x.agree(0, 0), 20);
            Check.row(x, 0, width, 1, 0, 1, 1L << (bits - 1));
            Check.due("the highest alone is not, width " + width, x.agree(0, 0), 0);
            if (width > 0) {
                Check.row(x, 0, width, 1, 0, 1, (1L << bits / 2) - 1);
                Check.due("half the bits are not, width " + width, x.agree(0, 0), 0);
                Check.row(x, 0, width, 1 + (1L << bits / 2), 0, 1, -1);
                Check.due("nor are they cut, width " + width, x.agree(0, 0), -2);
            }
        }
        Check.row(x, 0, 0, 1, 0, 2, 5);
        for (int i = 0; i < 4; i++) {
            Check.due("write(0, " + i + ")", x.write(0, i, 300 + i), 0);
        }
        Check.due("each is where it was put: 44 is no town", x.agree(0, 0), -2);
        long[] good = {257, -256, 514, 261};
        for (int i = 3; i >= 0; i--) {
            Check.due("write(0, " + i + ")", x.write(0, i, good[i]), 0);
        }
        Check.due("and each again", x.agree(0, 0), 1);
    }

    private static void noSuchWrite() {
        SlowOrder x = Check.told(LAND);
        Check.row(x, 2, 0, 1, 0, 2, 5);
        int[] bad = {4, 5, -1, MOST, LEAST};
        Check.promise(44, "-2: there is no such SLOT");
        for (int slot : bad) {
            Check.due("write(" + slot + ", 0)", x.write(slot, 0, 7), -2);
            Check.due("write(" + slot + ", 60)", x.write(slot, 60, 7), -2);
        }
        Check.promise(44, "-6: it has nothing");
        int[] empty = {0, 1, 3};
        for (int slot : empty) {
            Check.due("write(" + slot + ", 0)", x.write(slot, 0, 7), -6);
            Check.due("write(" + slot + ", -1)", x.write(slot, -1, 7), -6);
            Check.due("write(" + slot + ", 60)", x.write(slot, 60, 7), -6);
        }
        Check.promise(44, "-7: there is no such number");
        int[] beyond = {4, 5, 59, 60, -1, MOST, LEAST};
        for (int i : beyond) {
            Check.due("write(2, " + i + ")", x.write(2, i, 7), -7);
            Check.due("nothing happens", x.agree(2, 0), 1);
        }
    }

    // ---- promise 45 ----

    private static void pasteWhole() {
        Check.promise(45, "So many numbers of a SLOT's row, from one on, are put to another one's (or its own), from one on");
        for (int width = 0; width < 4; width++) {
            SlowOrder x = Check.told(LAND);
            Check.row(x, 0, width, 9, 1, 0, 2, 5, 9);
            Check.row(x, 3, width, 1, 0, 1, 9, 8, 8, 8, 8);
            Check.due("the middle to the end", x.paste(0, 1, 3, 4, 4), 0);
            Check.due("one number", x.paste(3, 5, 3, 3, 1), 0);
            Check.due("which is 0 and never held", x.agree(3, 0), 0);
            x.write(3, 3, -1);
            Check.due("the others as they were", x.agree(3, 0), 1);
            Check.due("where they came from they stay", x.paste(0, 1, 0, 0, 4), 0);
            Check.due("six are not four each", x.agree(0, 0), -2);
        }
        // the longest row as a whole
        SlowOrder x = Check.told(LAND);
        x.row(0, 0, 60);
        x.row(1, 0, 60);
        for (int i = 0; i < 60; i += 4) {
            x.write(0, i, 1);
            x.write(0, i + 2, 2 + i / 4);
            x.write(0, i + 3, i == 0 ? 5 : i == 4 || i == 8 ? 5 : 6);
        }
        Check.due("seen", x.agree(0, 0), 1);
        Check.due("all sixty", x.paste(0, 0, 1, 0, 60), 0);
        Check.due("seen", x.agree(1, 0), 1);
        Check.due("the last one", x.paste(0, 58, 1, 59, 1), 0);
        Check.due("16 never held", x.agree(1, 0), 0);
    }

    private static void pasteAsTheyWere() {
        Check.promise(45, "(or its own), from one on, as they were: 0");
        SlowOrder x = Check.told(LAND);
        Check.row(x, 0, 0, 1, 0, 2, 5, 1, 0, 3, 5);
        Check.due("three on, over themselves", x.paste(0, 0, 0, 1, 7), 0);
        Check.due("and back", x.paste(0, 1, 0, 0, 7), 0);
        x.write(0, 7, 5);
        Check.due("as they were", x.agree(0, 0), 1);
        Check.due("on their own place", x.paste(0, 0, 0, 0, 8), 0);
        Check.due("as they were", x.agree(0, 0), 1);
        Check.due("four on", x.paste(0, 0, 0, 4, 4), 0);
        Check.due("as they were", x.agree(0, 0), 1);
        Check.row(x, 0, 0, 7, 1, 0, 2, 5, 7, 7, 7);
        Check.due("one ahead, over themselves", x.paste(0, 1, 0, 0, 4), 0);
        Check.due("and the same behind", x.paste(0, 0, 0, 4, 4), 0);
        Check.due("as they were", x.agree(0, 0), 1);
    }

    private static void pasteNone() {
        Check.promise(45, "also where n is 0: a place above how many it has");
        SlowOrder x = Check.told(LAND);
        x.row(0, 0, 4);
        x.row(1, 0, 0);
        x.row(2, 0, 60);
        Check.due("none at its end", x.paste(0, 4, 0, 4, 0), 0);
        Check.due("none of none", x.paste(1, 0, 1, 0, 0), 0);
        Check.due("none at the end of the longest", x.paste(2, 60, 2, 60, 0), 0);
        Check.due("none to none", x.paste(0, 0, 1, 0, 0), 0);
        Check.due("from above", x.paste(0, 5, 0, 0, 0), -7);
        Check.due("to above", x.paste(0, 0, 0, 5, 0), -7);
        Check.due("from above none", x.paste(1, 1, 1, 0, 0), -7);
        Check.due("to above none", x.paste(0, 0, 1, 1, 0), -7);
        Check.due("from above the longest", x.paste(2, 61, 2, 0, 0), -7);
        Check.due("to above the longest", x.paste(2, 0, 2, 61, 0), -7);
    }

    private static void pasteBeyond() {
        Check.promise(45, "-7, and nothing happens: some are beyond their rows");
        SlowOrder x = Check.told(LAND);
        Check.row(x, 0, 0, 1, 0, 2, 5, 1, 0, 3, 5);
        Check.row(x, 1, 0, 1, 0, 2, 5);
        int[][] beyond = {{0, 0, 5}, {1, 0, 5}, {4, 0, 5}, {5, 0, 4}, {7, 0, 2}, {8, 0, 1}, {0, 1, 4}, {0, 3, 2}, {0, 4, 1},
            {-1, 0, 1}, {-1, 0, 0}, {-4, 0, 4}, {0, -1, 1}, {0, -1, 0}, {0, -4, 4}, {0, 0, -1}, {4, 4, -1}, {8, 4, -4},
            {MOST, 0, 1}, {0, MOST, 1}, {0, 0, MOST}, {MOST, MOST, MOST}, {1, 1, MOST}, {4, 2, MOST - 1}, {LEAST, 0, 1},
            {0, LEAST, 1}, {0, 0, LEAST}, {LEAST, LEAST, LEAST}, {MOST, 0, LEAST}, {MOST, MOST, 0}};
        for (int[] b : beyond) {
            String at = "paste(0, " + b[0] + ", 1, " + b[1] + ", " + b[2] + ")";
            Check.due(at, x.paste(0, b[0], 1, b[1], b[2]), -7);
            Check.due("nothing happens by " + at, x.agree(1, 0), 1);
            Check.due("nothing happens by " + at, x.agree(0, 0), 1);
        }
        // to the longer one
        Check.due("four of four", x.paste(1, 0, 0, 4, 4), 0);
        Check.due("five of four", x.paste(1, 0, 0, 0, 5), -7);
        Check.due("to beyond", x.paste(1, 0, 0, 5, 4), -7);
        Check.due("to its own beyond", x.paste(0, 0, 0, 1, 8), -7);
        Check.due("of its own beyond", x.paste(0, 1, 0, 0, 8), -7);
        Check.due("nothing happens", x.agree(0, 0), 1);
    }

    private static void noSuchPaste() {
        SlowOrder x = Check.told(LAND);
        x.row(0, 0, 4);
        Check.promise(45, "-2: there is no such SLOT");
        int[] bad = {4, 5, -1, MOST, LEAST};
        for (int slot : bad) {
            Check.due("from " + slot, x.paste(slot, 0, 0, 0, 0), -2);
            Check.due("to " + slot, x.paste(0, 0, slot, 0, 0), -2);
            Check.due("from one with nothing to " + slot, x.paste(1, 0, slot, 0, 0), -2);
            Check.due("from " + slot + " to one with nothing", x.paste(slot, 0, 1, 0, 0), -2);
            Check.due("both " + slot, x.paste(slot, -1, slot, -1, -1), -2);
        }
        Check.promise(45, "-6: one has nothing");
        for (int slot = 1; slot < 4; slot++) {
            Check.due("from " + slot, x.paste(slot, 0, 0, 0, 0), -6);
            Check.due("to " + slot, x.paste(0, 0, slot, 0, 0), -6);
            Check.due("both " + slot, x.paste(slot, 0, slot, 0, 0), -6);
            Check.due("beyond", x.paste(0, 9, slot, 9, -9), -6);
        }
    }

    private static void pasteNotOfOneWidth() {
        Check.promise(45, "-8: they are not of one WIDTH");
        SlowOrder x = Check.told(LAND);
        for (int slot = 0; slot < 4; slot++) {
            Check.row(x, slot, slot, 1, 0, 2, 5);
        }
        for (int a = 0; a < 4; a++) {
            for (int b = 0; b < 4; b++) {
                Check.due("paste(" + a + ", 0, " + b + ", 0, 4)", x.paste(a, 0, b, 0, 4), a == b ? 0 : -8);
                Check.due("none of them", x.paste(a, 4, b, 4, 0), a == b ? 0 : -8);
                Check.due("beyond", x.paste(a, 5, b, -1, 4), a == b ? -7 : -8);
            }
        }
        Check.so("none happens", isSeen(x, 0, 1) && isSeen(x, 1, 1) && isSeen(x, 2, 1) && isSeen(x, 3, 1));
        // a row in place of another has its own WIDTH
        x.row(0, 2, 4);
        Check.due("of one WIDTH now", x.paste(2, 0, 0, 0, 4), 0);
        Check.due("not any more", x.paste(1, 0, 0, 0, 0), -8);
        Check.so("as they were", isSeen(x, 0, 1));
    }

    // ---- what it is ----

    private static void lastCalls() {
        Check.term("What it is", "An object is used for at most 512 calls after it has been made");
        SlowOrder x = new SlowOrder();
        int calls = 0;
        for (; calls < 490; calls++) {
            x.feed(0x20202020, 0x20202020, 0x20202020, 0x20202020, 0x20202020);
        }
        x.end(0);
        calls++;
        int fed = (LAND.length() + 19) / 20;
        Check.so("room for a text", calls + fed + 5 < 512);
        Check.due("towards the last", Check.tell(x, LAND), 9);
        calls += 3 + fed;
        for (; calls < 511; calls++) {
            Check.due("call " + calls, x.holds(1, 0, 4), 5);
        }
        Check.due("the 512th", x.whose(1, 0, 5), 1);
    }
}
