import java.lang.reflect.Method;
import java.lang.reflect.Modifier;
import java.lang.reflect.Parameter;
import java.util.ArrayList;
import java.util.Comparator;
import java.util.List;

/**
 * Promises 6 to 39 at their ends: the greatest realm there is, the least ones and none, each call with the
 * least and the greatest numbers that it may be asked with, and with one of them beyond; compared with Model.
 */
public final class FullTest {
    private static final String[] NAMES = {"hours", "way", "order", "comes", "rider", "passes", "holds", "whose",
        "undone", "changes", "discord", "peace", "just", "latest", "earliest", "ways", "best", "delay", "queen", "wish",
        "rest", "rests", "sent", "cross", "meets", "forged", "agree", "when", "sure", "matters", "year", "years", "count"};
    private static final int CALLS = 512;

    private final String text;
    private final int seal;
    private SlowOrder x;
    private Model model;
    private int calls;

    private FullTest(String text, int seal) {
        this.text = text;
        this.seal = seal;
    }

    public static void main(String[] args) throws Exception {
        String[] texts = {greatest(), "", "realm towns 2 hours 5;", "realm towns 8 hours 99;rider pace 1 rests 0;",
            "realm towns 2 hours 5;road 0 to 1 hours 1;rider pace 1 rests 0;"
                + "order rider 0 on 0 says 0 from 0 to 1 at 0;order rider 0 on 2 undoes 0 from 0 to 1 at 3;wish 0 says 0 in 1 at 4;",
            "realm towns 3 hours 9;road 0 to 1 hours 20;rider pace 9 rests 20;"
                + "order rider 0 on 0 says 9 from 0 to 2 at 8;order rider 0 on 0 says 9 from 0 to 1 at 0;"};
        for (String text : texts) {
            for (int seal : new int[] {99, 30, 0}) {
                new FullTest(text, seal).askAll();
            }
        }
        Check.finish();
    }

    /** 8 towns, 99 hours, 12 roads, 8 floods, 6 riders, 10 orders. */
    private static String greatest() {
        StringBuilder s = new StringBuilder("realm towns 8 hours 99;");
        for (int t = 0; t < 7; t++) {
            s.append("road ").append(t).append(" to ").append(t + 1).append(" hours ").append(1 + t % 3).append(";");
        }
        s.append("road 0 to 3 hours 4;road 2 to 6 hours 9;road 7 to 0 hours 20;road 4 to 1 hours 6;road 7 to 5 hours 3;");
        s.append("flood 0 to 1 from 98 to 98;flood 1 to 2 from 0 to 9;flood 7 to 5 from 0 to 30;flood 6 to 7 from 20 to 25;");
        s.append("flood 3 to 4 from 11 to 14;flood 4 to 3 from 15 to 16;flood 0 to 3 from 3 to 3;flood 2 to 1 from 40 to 98;");
        s.append("rider pace 1 rests 0;rider pace 9 rests 20;rider pace 2 rests 1;rider pace 1 rests 3;rider pace 4 rests 0;");
        s.append("rider pace 1 rests 1;");
        s.append("order rider 0 on 0 says 0 from 0 to 7 at 0;order rider 5 on 0 says 9 from 7 to 0 at 20;");
        s.append("order rider 2 on 0 says 3 from 0 to 7 at 9 via 3 0 3;order rider 3 on 2 undoes 0 from 1 to 7 at 12;");
        s.append("order rider 0 on 1 undoes 3 from 6 to 7 at 50;order rider 1 on 0 says 4 from 6 to 7 at 33;");
        s.append("order rider 4 on 2 says 5 from 2 to 0 at 40;order rider 0 on 0 says 9 from 5 to 7 at 60 via 7 0 7;");
        s.append("order rider 1 on 0 says 8 from 0 to 7 at 98 via 7 0 7;order rider 5 on 0 says 9 from 0 to 7 at 30;");
        for (int o : new int[] {0, 1, 2, 5, 6, 7, 8, 9}) {
            s.append("wish ").append(o).append(" says ").append(o == 1 ? 9 : o % 5).append(" in ").append(o == 1 ? 0 : 7)
                .append(" at ").append(90 - 7 * o).append(";");
        }
        return s.toString();
    }

    private void askAll() throws Exception {
        renew();
        List<Method> face = new ArrayList<>();
        for (Method m : SlowOrder.class.getDeclaredMethods()) {
            if (Modifier.isPublic(m.getModifiers()) && List.of(NAMES).contains(m.getName())) {
                face.add(m);
            }
        }
        Check.due("methods", face.size(), NAMES.length);
        face.sort(Comparator.comparing(Method::getName));
        for (Method m : face) {
            Parameter[] parameters = m.getParameters();
            int[][] ends = new int[parameters.length][];
            for (int i = 0; i < ends.length; i++) {
                ends[i] = ends(m.getName(), parameters[i].getName());
            }
            askEnds(m, ends, new Object[ends.length], 0);
            for (int i = 0; i < ends.length; i++) {
                askBeyond(m, ends, i);
            }
        }
    }

    private void renew() throws Exception {
        x = new SlowOrder();
        model = new Model();
        calls = 0;
        for (int at = 0; at < text.length(); at += 20) {
            Object[] v = {0, 0, 0, 0, 0};
            for (int k = 0; k < 20; k++) {
                int b = at + k < text.length() ? text.charAt(at + k) : ' ';
                v[k / 4] = (int) v[k / 4] << 8 | b;
            }
            ask("feed", v);
        }
        ask("realm");
        ask("fault", 0);
        Check.due("fault of '" + text + "' at " + x.fault(1), x.fault(0), 0);
        ask("seal", seal);
        int last = Math.max(0, model.count(1) - 1);
        row(0);
        row(1, 0, 0, 0, 9, 7, 58, 1, 7, 26);
        row(2, Math.max(0, model.count(0) - 1), 0, last, Math.max(-1, model.holds(model.count(0) - 1, 0, last)));
    }

    private void row(int slot, int... numbers) throws Exception {
        ask("row", slot, slot, numbers.length);
        for (int i = 0; i < numbers.length; i++) {
            ask("write", slot, i, (long) numbers[i]);
        }
    }

    private int[] ends(String method, String name) {
        int hours = Math.max(1, model.count(1));
        int towns = Math.max(1, model.count(0));
        int orders = Math.max(1, model.count(5));
        switch (name) {
            case "hour": return new int[] {0, hours / 2, hours - 1};
            case "town": case "from": case "to": return new int[] {0, towns / 2, towns - 1};
            case "order": case "other": return new int[] {0, orders / 2, orders - 1};
            case "thing": return new int[] {0, 2};
            case "says": return method.equals("queen") ? new int[] {0, 9} : new int[] {-1, 0, 9};
            case "what": return method.equals("count") ? new int[] {0, 9} : method.equals("order") ? new int[] {0, 2, 6}
                : method.equals("delay") ? new int[] {0, 1} : new int[] {0, 1, 2};
            case "slot": return new int[] {0, 1, 2, 3};
            case "i": return new int[] {0, 1, hours - 1};
            case "seed": return new int[] {0, 2000000000};
            case "odds": return new int[] {0, 40, 100};
            case "n": return method.equals("years") ? new int[] {1, 20} : new int[] {0, 7, 50};
            default: throw new IllegalStateException(name);
        }
    }

    private void askEnds(Method m, int[][] ends, Object[] args, int i) throws Exception {
        if (i == ends.length) {
            ask(m.getName(), args);
            return;
        }
        for (int v : ends[i]) {
            args[i] = v;
            askEnds(m, ends, args, i + 1);
        }
    }

    /** One number is beyond its end, all others are the least or the greatest. */
    private void askBeyond(Method m, int[][] ends, int i) throws Exception {
        int last = ends[i][ends[i].length - 1];
        int[] beyond = {last + 1, ends[i][0] - 1, Integer.MAX_VALUE, Integer.MIN_VALUE};
        for (int v : beyond) {
            for (int side = 0; side < 2; side++) {
                Object[] args = new Object[ends.length];
                for (int k = 0; k < args.length; k++) {
                    args[k] = k == i ? v : ends[k][side == 0 ? 0 : ends[k].length - 1];
                }
                ask(m.getName(), args);
            }
        }
    }

    private void ask(String name, Object... args) throws Exception {
        if (calls == CALLS) {
            renew();
        }
        calls++;
        Class<?>[] types = new Class<?>[args.length];
        StringBuilder call = new StringBuilder(name).append('(');
        for (int i = 0; i < args.length; i++) {
            types[i] = args[i] instanceof Long ? long.class : int.class;
            call.append(i == 0 ? "" : ", ").append(args[i]);
        }
        int got = (int) SlowOrder.class.getMethod(name, types).invoke(x, args);
        int due = (int) Model.class.getMethod(name, types).invoke(model, args);
        Check.due(call + ") of '" + text + "', seal " + seal, got, due);
    }
}
