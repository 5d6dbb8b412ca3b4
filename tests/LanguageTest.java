import java.nio.file.Files;
import java.nio.file.Path;
import java.util.regex.Matcher;
import java.util.regex.Pattern;

/** Those rules of LANGUAGE.md that a glance at the source can tell. */
public final class LanguageTest {
    private static final String[] BANNED = {
        "\\bthrow\\b", "\\btry\\b", "\\bcatch\\b", "\\bsynchronized\\b", "\\bassert\\b", "->", "::", "\\bvar\\b",
        "\\bprotected\\b", "\\bnative\\b", "\\bvolatile\\b", "\\btransient\\b", "\\bequals\\b", "\\bhashCode\\b",
        "\\bMap\\b", "\\bSet\\b", "\\bOptional\\b", "\\bRandom\\b", "\\bScanner\\b", "\\bObject\\b", "Exact\\b",
        "\\bSystem\\.(?!arraycopy)", "\\bInteger\\.parse", "@", "\\bpackage\\b", "\\bimport\\s+(?!java\\.util\\.Arrays;)",
        "\"\\s*\\+", "\\+\\s*\"", "\\bstatic\\s*\\{", "\\bpublic\\s+static\\s+(?!final)"};

    public static void main(String[] args) throws Exception {
        String source = Files.readString(Path.of("src/main/java/SlowOrder.java"));
        String code = source.replaceAll("(?s)/\\*.*?\\*/", "").replaceAll("//[^\n]*", "");
        for (String banned : BANNED) {
            Check.so("without " + banned, !Pattern.compile(banned).matcher(code).find());
        }
        for (int i = 0; i < code.length(); i++) {
            if (code.charAt(i) > 126) {
                Check.so("plain signs", false);
            }
        }
        Check.so("at most twelve classes", count(code, "\\bclass\\s+\\w+") <= 12);
        Check.due("public members", count(code, "(?m)^    public "), 46);
        Check.due("no public ones inside", count(code, "(?m)^ {5,}public "), 0);
        methods(code);
        Check.finish();
    }

    private static int count(String code, String pattern) {
        Matcher m = Pattern.compile(pattern).matcher(code);
        int n = 0;
        while (m.find()) {
            n++;
        }
        return n;
    }

    private static void methods(String code) {
        Matcher m = Pattern.compile("(?m)^( +)(?:public|private) [\\w\\[\\] ]*?(\\w+)\\(([^)]*)\\) \\{\n").matcher(code);
        int methods = 0;
        while (m.find()) {
            methods++;
            int close = code.indexOf("\n" + m.group(1) + "}", m.end());
            String body = code.substring(m.end(), close);
            Check.so(m.group(2) + " is short", body.split("\n").length <= 60);
            Check.so(m.group(2) + " takes seven at most", m.group(3).split(",").length <= 7);
        }
        Check.so("methods are seen", methods > 100);
    }
}
