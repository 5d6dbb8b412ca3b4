import java.lang.reflect.Method;
import java.lang.reflect.Modifier;
import java.lang.reflect.Parameter;
import java.util.ArrayList;
import java.util.Comparator;
import java.util.List;
import java.util.Random;

/** Asks SlowOrder and the plain Model the same, along random runs from set seeds. */
public final class RandomTest {
    private static final int RUNS = 150;

    private final Random dice;
    private final SlowOrder x = new SlowOrder();
    private final Model model = new Model();
    private final List<String> told = new ArrayList<>();
    private int calls = 0;
    private int favourite = 0;
    private boolean wrong = false;

    private RandomTest(long seed) {
        dice = new Random(seed);
    }

    public static void main(String[] args) throws Exception {
        List<Method> face = face();
        int runs = args.length > 0 ? Integer.parseInt(args[0]) : RUNS;
        int first = args.length > 1 ? Integer.parseInt(args[1]) : 0;
        int bad = 0;
        for (int run = first; run < first + runs && bad < 3; run++) {
            RandomTest test = new RandomTest(run);
            test.run(face);
            if (test.wrong) {
                bad++;
                System.out.println("seed " + run);
                test.told.forEach(System.out::println);
            }
        }
        System.out.println(runs + " random runs, " + bad + " wrong");
        if (bad != 0) {
            System.exit(1);
        }
    }

    private static List<Method> face() {
        List<Method> face = new ArrayList<>();
        for (Method m : SlowOrder.class.getDeclaredMethods()) {
            if (Modifier.isPublic(m.getModifiers())) {
                face.add(m);
            }
        }
        face.sort(Comparator.comparing(Method::getName));
        return face;
    }

    private int upTo(int n) {
        return dice.nextInt(n + 1);
    }

    private boolean odds(int percent) {
        return dice.nextInt(100) < percent;
    }

    private void run(List<Method> face) throws Exception {
        if (odds(10)) {
            askSome(face, 60);
        }
        while (calls < 512 && !wrong) {
            tellSome();
            seenSome();
            askSome(face, 20 + upTo(60));
        }
    }

    private void askSome(List<Method> face, int asks) throws Exception {
        for (int i = 0; i < asks && calls < 512 && !wrong; i++) {
            Method m = face.get(dice.nextInt(face.size()));
            String name = m.getName();
            boolean rare = name.equals("realm") || name.equals("end") || name.equals("feed")
                || name.equals("restore");
            if (rare && odds(94) || isSlotCall(name) && odds(70)) {
                continue;
            }
            if (name.equals("row") && odds(60)) {
                bookSome();
            } else if (name.equals("paste") && odds(80)) {
                pasteSome();
            } else if (name.equals("agree") && odds(50)) {
                seenSome();
            } else {
                ask(m, arguments(m));
            }
        }
    }

    private static boolean isSlotCall(String name) {
        return name.equals("row") || name.equals("write") || name.equals("paste") || name.equals("fault");
    }

    private void ask(Method m, Object... args) throws Exception {
        Method other = Model.class.getMethod(m.getName(), m.getParameterTypes());
        Object got = m.invoke(x, args);
        Object want = other.invoke(model, args);
        calls++;
        StringBuilder call = new StringBuilder(m.getName()).append('(');
        for (Object arg : args) {
            call.append(arg).append(' ');
        }
        call.append(") ").append(got);
        if (!got.equals(want)) {
            wrong = true;
            call.append(" DUE ").append(want);
        }
        told.add(call.toString());
    }

    private void ask(String name, Object... args) throws Exception {
        for (Method m : face()) {
            if (m.getName().equals(name)) {
                ask(m, args);
            }
        }
    }

    private Object[] arguments(Method m) {
        Parameter[] parameters = m.getParameters();
        Object[] args = new Object[parameters.length];
        for (int i = 0; i < args.length; i++) {
            int v = odds(4) ? wild() : argument(m.getName(), parameters[i].getName());
            args[i] = parameters[i].getType() == long.class ? (Object) (long) v : (Object) v;
        }
        return args;
    }

    private int wild() {
        int[] all = {-1, -2, 10, 11, 60, 61, 99, 100, 101, 3, 4, 5, 8, 512, Integer.MAX_VALUE, Integer.MIN_VALUE};
        return all[dice.nextInt(all.length)];
    }

    private int argument(String method, String name) {
        int hours = Math.max(1, model.count(1));
        int towns = Math.max(1, model.count(0));
        int orders = Math.max(1, model.count(5));
        switch (name) {
            case "hour":
                return odds(50) ? Math.max(0, hours - 1 - upTo(4)) : upTo(hours - 1 + (odds(5) ? 1 : 0));
            case "town":
                return odds(60) ? favourite : upTo(towns - 1 + (odds(5) ? 1 : 0));
            case "from": return upTo(towns - 1 + (odds(5) ? 1 : 0));
            case "to": return method.equals("paste") ? upTo(3) : odds(60) ? favourite : upTo(towns - 1);
            case "order": case "other": return upTo(orders - 1 + (odds(5) ? 1 : 0));
            case "thing": return odds(75) ? 0 : odds(90) ? upTo(2) : upTo(3);
            case "says": return upTo(3) - 1;
            case "what":
                return method.equals("count") ? upTo(11) - 1 : method.equals("order") ? upTo(7)
                    : method.equals("delay") ? upTo(odds(90) ? 1 : 2) : upTo(odds(90) ? 2 : 3);
            case "slot": return upTo(3);
            case "k": return method.equals("paste") ? upTo(20) : upTo(2);
            case "i": return upTo(odds(50) ? 5 : 60);
            case "seed": return odds(10) ? 2000000000 : upTo(5000);
            case "odds": return odds(50) ? upTo(100) : 100;
            case "width": return upTo(3);
            case "n":
                return method.equals("seal") ? upTo(hours) : method.equals("rests") || method.equals("sent")
                    ? upTo(8) : upTo(24);
            case "v": return odds(50) ? upTo(9) - 1 : dice.nextInt();
            default: return upTo(40);
        }
    }

    // ---- rows ----

    private void bookSome() throws Exception {
        int slot = upTo(3);
        int entries = upTo(4);
        ask("row", slot, upTo(3), 3 * entries + (odds(5) ? 1 : 0));
        for (int e = 0; e < entries; e++) {
            int order = upTo(Math.max(0, model.count(5) - 1 + (odds(3) ? 1 : 0)));
            int stop = upTo(4);
            int town = stop == 0 ? model.order(order, 4) : upTo(Math.max(0, model.count(0) - 1));
            int hour = stop == 0 ? model.order(order, 6) : model.passes(order, upTo(5));
            ask("write", slot, 3 * e, (long) order);
            ask("write", slot, 3 * e + 1, (long) town);
            ask("write", slot, 3 * e + 2, (long) hour);
        }
        ask("forged", slot);
    }

    /** Parts of two rows that tell what towns did are mixed; what they tell then is asked. */
    private void pasteSome() throws Exception {
        int width = upTo(3);
        int[] slots = {upTo(3), upTo(3)};
        for (int slot : slots) {
            ask("row", slot, width, 4 * (1 + upTo(3)));
            for (int i = 0; i < 16; i += 4) {
                ask("write", slot, i, (long) favourite);
                ask("write", slot, i + 2, (long) upTo(Math.max(0, model.count(1) - 1)));
                ask("write", slot, i + 3, (long) (odds(60) ? -1 : upTo(3)));
            }
        }
        for (int i = 0; i < 4; i++) {
            boolean whole = odds(70);
            ask("paste", slots[upTo(1)], whole ? 4 * upTo(4) : upTo(17), slots[upTo(1)],
                whole ? 4 * upTo(4) : upTo(17), whole ? 4 * upTo(3) : upTo(17));
            for (int slot : slots) {
                ask("agree", slot, upTo(4));
                ask("forged", slot);
            }
        }
    }

    private void seenSome() throws Exception {
        int slot = upTo(3);
        int entries = upTo(2);
        ask("row", slot, upTo(3), 4 * entries + (odds(5) ? 1 : 0));
        for (int e = 0; e < entries; e++) {
            int town = odds(70) ? model.order(upTo(4), 5) : upTo(Math.max(0, model.count(0) - 1));
            int thing = upTo(2);
            int hour = upTo(Math.max(0, model.count(1) - 1));
            int held = odds(60) ? model.holds(Math.max(0, town), thing, hour) : upTo(4) - 1;
            ask("write", slot, 4 * e, (long) town);
            ask("write", slot, 4 * e + 1, (long) thing);
            ask("write", slot, 4 * e + 2, (long) hour);
            ask("write", slot, 4 * e + 3, (long) held);
        }
        for (int i = 0; i < 3; i++) {
            int order = upTo(4);
            ask("agree", slot, order);
            ask("when", slot, order, upTo(3));
            ask("sure", slot, order, upTo(3), upTo(2), upTo(20));
        }
    }

    // ---- texts ----

    private void tellSome() throws Exception {
        String text = text();
        if (odds(12)) {
            text = spoil(text);
        }
        int had = model.count(7);
        int[] v = new int[5];
        for (int at = 0; at < text.length(); at += 20) {
            for (int k = 0; k < 5; k++) {
                v[k] = 0;
                for (int b = 0; b < 4; b++) {
                    int i = at + 4 * k + b;
                    v[k] = v[k] << 8 | (i < text.length() ? text.charAt(i) & 255 : 0);
                }
            }
            ask("feed", v[0], v[1], v[2], v[3], v[4]);
        }
        ask("end", had + text.length());
        told.add(text);
        ask("realm");
        ask("fault", 0);
        ask("fault", 1);
    }

    private String text() {
        StringBuilder s = new StringBuilder();
        int towns = 2 + upTo(odds(50) ? 2 : 6);
        int hours = odds(70) ? 15 + upTo(25) : 5 + upTo(94);
        s.append("realm towns ").append(towns).append(" hours ").append(hours).append(";");
        List<int[]> roads = new ArrayList<>();
        int tries = upTo(14);
        for (int a = 1; a < towns && odds(93); a++) {
            addRoad(s, roads, upTo(a - 1), a);
        }
        for (int i = 0; i < tries && roads.size() < 12; i++) {
            int a = upTo(towns - 1);
            int b = upTo(towns - 1);
            boolean told = a == b;
            for (int[] r : roads) {
                told |= r[0] == a && r[1] == b || r[0] == b && r[1] == a;
            }
            if (!told || odds(1)) {
                addRoad(s, roads, a, b);
            }
        }
        int floods = roads.isEmpty() ? 0 : upTo(8);
        for (int i = 0; i < floods; i++) {
            int[] r = roads.get(dice.nextInt(roads.size()));
            boolean turned = odds(50);
            int from = upTo(hours - 1);
            s.append("flood ").append(r[turned ? 1 : 0]).append(" to ").append(r[turned ? 0 : 1])
                .append(" from ").append(from).append(" to ").append(Math.min(hours - 1, from + upTo(6)))
                .append(";");
        }
        int riders = odds(5) ? 0 : 1 + upTo(odds(80) ? 2 : 5);
        for (int i = 0; i < riders; i++) {
            s.append("rider pace ").append(1 + upTo(odds(80) ? 1 : 8)).append(" rests ")
                .append(upTo(odds(80) ? 2 : 20)).append(";");
        }
        orders(s, towns, hours, riders);
        if (odds(30)) {
            s.append("seal ").append(upTo(hours)).append(";");
        }
        return s.toString();
    }

    private void addRoad(StringBuilder s, List<int[]> roads, int a, int b) {
        boolean turned = odds(50);
        roads.add(new int[] {a, b});
        s.append("road ").append(turned ? b : a).append(" to ").append(turned ? a : b).append(" hours ")
            .append(1 + upTo(odds(90) ? 2 : 19)).append(odds(50) ? ";" : " ;\n");
    }

    private void orders(StringBuilder s, int towns, int hours, int riders) {
        int orders = riders == 0 ? 0 : odds(70) ? 4 + upTo(6) : upTo(10) + (odds(3) ? 1 : 0);
        boolean[] says = new boolean[11];
        favourite = upTo(towns - 1);
        for (int i = 0; i < orders && s.length() < 1850; i++) {
            int from = upTo(towns - 1);
            int to = odds(75) ? favourite : upTo(towns - 1);
            if (from == to) {
                from = (to + 1) % towns;
            }
            says[i] = i == 0 || odds(70);
            s.append("order rider ").append(upTo(riders - 1)).append(" on ").append(odds(80) ? 0 : upTo(2))
                .append(says[i] ? " says " : " undoes ").append(says[i] ? upTo(2) : upTo(i - 1))
                .append(" from ").append(from).append(" to ").append(to)
                .append(" at ").append(upTo(odds(70) ? hours / 2 : hours - 1));
            int vias = odds(70) ? 0 : 1 + upTo(2);
            for (int v = 0; v < vias; v++) {
                s.append(v == 0 ? " via " : " ").append(upTo(towns - 1));
            }
            s.append(";");
            if (odds(40)) {
                int wished = upTo(i);
                wished = says[wished] || odds(3) ? wished : 0;
                s.append("wish ").append(wished).append(" says ").append(upTo(2)).append(" in ")
                    .append(odds(70) ? favourite : upTo(towns - 1)).append(" at ").append(upTo(hours - 1))
                    .append(";");
            }
        }
    }

    private String spoil(String text) {
        StringBuilder s = new StringBuilder(text);
        int times = 1 + upTo(1);
        String[] parts = {";", " ", "7", "via", "0", "99", "to", "\t", "A", "realm", "-", "\u00ff", "undoes", "9 9"};
        for (int i = 0; i < times; i++) {
            int at = upTo(s.length() - 1);
            switch (upTo(3)) {
                case 0: s.deleteCharAt(at); break;
                case 1: s.insert(at, parts[dice.nextInt(parts.length)]); break;
                case 2: s.setLength(at + 1); break;
                default: s.setCharAt(at, parts[dice.nextInt(parts.length)].charAt(0)); break;
            }
        }
        return s.length() == 0 ? ";" : s.toString();
    }
}
