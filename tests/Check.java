import java.util.TreeSet;

/** Counts answers that are not as due, and feeds texts. */
final class Check {
    private static int wrong = 0;
    private static int asked = 0;
    private static String belongs = "";
    private static final TreeSet<Integer> PROMISES = new TreeSet<>();

    private Check() {
    }

    /** What is asked from here on belongs to this promise, and to this sentence of it. */
    static void promise(int n, String sentence) {
        PROMISES.add(n);
        belongs = "promise " + n + " '" + sentence + "': ";
    }

    /** Likewise to one of the Terms. */
    static void term(String n, String sentence) {
        belongs = "term " + n + " '" + sentence + "': ";
    }

    static boolean isPromiseAsked(int n) {
        return PROMISES.contains(n);
    }

    static void due(String call, long got, long want) {
        asked++;
        if (got != want) {
            wrong++;
            System.out.println(belongs + call + " answered " + got + ", due is " + want);
        }
    }

    static void so(String what, boolean is) {
        due(what, is ? 1 : 0, 1);
    }

    static void finish() {
        System.out.println(asked + " answers, " + wrong + " not as due");
        if (wrong != 0) {
            System.exit(1);
        }
    }

    /** Puts a text on the tape, twenty bytes a call; the rest of the last call is cut off. */
    static int tape(SlowOrder x, String text) {
        int had = x.count(7);
        int[] four = new int[5];
        for (int at = 0; at < text.length(); at += 20) {
            for (int k = 0; k < 5; k++) {
                four[k] = 0;
                for (int b = 0; b < 4; b++) {
                    int i = at + 4 * k + b;
                    four[k] = four[k] << 8 | (i < text.length() ? text.charAt(i) & 255 : ' ');
                }
            }
            if (x.feed(four[0], four[1], four[2], four[3], four[4]) == SlowOrder.NONE) {
                return SlowOrder.NONE;
            }
        }
        return x.end(had + text.length());
    }

    static int tell(SlowOrder x, String text) {
        tape(x, text);
        return x.realm();
    }

    static SlowOrder told(String text) {
        SlowOrder x = new SlowOrder();
        int lines = tell(x, text);
        so("told: " + text + " (fault " + x.fault(0) + " at " + x.fault(1) + ")", lines > 0);
        return x;
    }

    /** The text is refused by this fault at this place; the tape is empty behind it. */
    static void refused(String text, int fault, int place) {
        SlowOrder x = new SlowOrder();
        due("realm() of '" + text + "'", tell(x, text), -4);
        due("fault(0) of '" + text + "'", x.fault(0), fault);
        due("fault(1) of '" + text + "'", x.fault(1), place);
        due("count(7) behind '" + text + "'", x.count(7), 0);
        due("count(0) behind '" + text + "'", x.count(0), 0);
    }

    /** The text's last word or number is refused by this fault. */
    static void refusedAtEnd(String text, int fault) {
        refused(text, fault, text.lastIndexOf(' ') + 1);
    }

    /** Each of the numbers may stand behind the text (with the rest behind it), and the two outside may not. */
    static void bounds(String text, int least, int most, String rest) {
        SlowOrder x = new SlowOrder();
        so(text + least + rest, tell(x, text + least + rest) > 0);
        so(text + most + rest, tell(x, text + most + rest) > 0);
        refused(text + (most + 1) + rest, 2, text.length());
        if (least > 0) {
            refused(text + (least - 1) + rest, 2, text.length());
        }
    }

    static void row(SlowOrder x, int slot, int width, long... numbers) {
        due("row", x.row(slot, width, numbers.length), 0);
        for (int i = 0; i < numbers.length; i++) {
            due("write", x.write(slot, i, numbers[i]), 0);
        }
    }
}
