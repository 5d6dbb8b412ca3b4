import java.lang.reflect.Method;
import java.nio.file.Files;
import java.nio.file.Path;
import java.util.Set;
import java.util.TreeSet;
import java.util.regex.Matcher;
import java.util.regex.Pattern;

/** What README.md shows is so: its examples are asked line by line, with its own way to feed a text. */
public final class ReadmeTest {
    private static final Pattern FEED = Pattern.compile("feed\\(x, \"(.*)\"\\);");
    private static final Pattern CALL = Pattern.compile("x\\.(\\w+)\\(([^)]*)\\); +// (-?\\d+)(?:: .*)?");

    public static void main(String[] args) throws Exception {
        String page = Files.readString(Path.of("README.md"));
        String own = Files.readString(Path.of("tests/ReadmeTest.java"));
        SlowOrder x = new SlowOrder();
        Set<String> shown = new TreeSet<>();
        boolean fed = false;
        Matcher block = Pattern.compile("(?s)```java\n(.*?)```").matcher(page);
        while (block.find()) {
            String code = block.group(1);
            if (code.startsWith("static ")) {
                Check.so("the way to feed is this test's own", plain(own).contains(plain(code)));
                fed = true;
            } else {
                ask(x, code, shown);
            }
        }
        Check.so("a way to feed is shown", fed);
        for (Method m : SlowOrder.class.getDeclaredMethods()) {
            String name = m.getName();
            if (java.lang.reflect.Modifier.isPublic(m.getModifiers())) {
                Check.so(name + " is told of", page.contains(name + "(") || page.contains("`" + name + "`"));
            }
        }
        Check.so("many calls are shown", shown.size() > 35);
        Check.finish();
    }

    private static void ask(SlowOrder x, String code, Set<String> shown) throws Exception {
        for (String line : code.split("\n")) {
            Matcher feed = FEED.matcher(line);
            Matcher call = CALL.matcher(line);
            if (feed.matches()) {
                feed(x, feed.group(1));
            } else if (call.matches()) {
                String[] numbers = call.group(2).isEmpty() ? new String[0] : call.group(2).split(", ");
                shown.add(call.group(1));
                Check.due("README.md: " + line, answer(x, call.group(1), numbers), Long.parseLong(call.group(3)));
            } else {
                Check.so("README.md: " + line, line.equals("SlowOrder x = new SlowOrder();"));
            }
        }
    }

    private static int answer(SlowOrder x, String name, String[] numbers) throws Exception {
        for (Method m : SlowOrder.class.getDeclaredMethods()) {
            if (m.getName().equals(name) && m.getParameterCount() == numbers.length) {
                Object[] args = new Object[numbers.length];
                for (int i = 0; i < args.length; i++) {
                    if (m.getParameterTypes()[i] == long.class) {
                        args[i] = Long.parseLong(numbers[i]);
                    } else {
                        args[i] = Integer.parseInt(numbers[i]);
                    }
                }
                return (Integer) m.invoke(x, args);
            }
        }
        throw new IllegalArgumentException("README.md calls " + name);
    }

    private static String plain(String code) {
        return code.replaceAll("\\s+", " ").trim();
    }

    static void feed(SlowOrder x, String text) {
        int had = x.count(7);
        for (int at = 0; at < text.length(); at += 20) {
            int[] n = new int[5];
            for (int i = 0; i < 20; i++) {
                int sign = at + i < text.length() ? text.charAt(at + i) : ' ';
                n[i / 4] = n[i / 4] << 8 | sign & 255;
            }
            x.feed(n[0], n[1], n[2], n[3], n[4]);
        }
        x.end(had + text.length());
    }
}
