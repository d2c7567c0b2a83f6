import java.nio.file.Files;
import java.nio.file.Path;
import java.util.ArrayList;
import java.util.HashSet;
import java.util.List;
import java.util.Set;
import java.util.regex.Matcher;
import java.util.regex.Pattern;

/** What can be seen in the program's text of the rules of LANGUAGE.md. */
public final class LanguageTest {
    private static final String[] RULED_OUT = {"throw", "throws", "try", "catch", "finally", "synchronized", "assert", "new Object",
        "protected", "volatile", "transient", "native", "Exact", "->", "::", "@Override", "System.out", "toString", "hashCode", "equals"};

    public static void main(String[] args) throws Exception {
        String source = Files.readString(Path.of("src/main/java/FarFromAnybody.java"));
        String text = source.replaceAll("(?s)/\\*.*?\\*/", "").replaceAll("//[^\n]*", "");
        Check.about("LANGUAGE.md");
        for (String word : RULED_OUT) {
            boolean isWord = Character.isLetter(word.charAt(0)) && !word.equals("Exact");
            Matcher m = Pattern.compile(isWord ? "\\b" + Pattern.quote(word) + "\\b" : Pattern.quote(word)).matcher(text);
            Check.due("uses of " + word, m.find(), false);
        }
        Check.due("signs beyond 127", source.chars().anyMatch(c -> c > 127), false);
        Check.due("imports but Arrays", text.replace("import java.util.Arrays;", "").contains("import"), false);
        Check.due("classes at most twelve", count(text, "\\bclass \\w+") <= 12, true);
        Check.due("static fields that are not final", Pattern.compile("\\bstatic (?!final)[\\w\\[\\]]+ \\w+( =|;)").matcher(text).find(), false);
        methods(text);
        Check.end();
    }

    private static int count(String text, String regex) {
        Matcher m = Pattern.compile(regex).matcher(text);
        int count = 0;
        while (m.find()) {
            count++;
        }
        return count;
    }

    private static void methods(String text) {
        Set<String> open = new HashSet<>();
        List<String> others = new ArrayList<>();
        String[] lines = text.split("\n");
        Pattern head = Pattern.compile("^( {4}| {8})((?:\\w+ )*)([\\w\\[\\]]+) (\\w+)\\((.*)\\) \\{$");
        for (int i = 0; i < lines.length; i++) {
            Matcher m = head.matcher(lines[i]);
            if (!m.matches() || m.group(3).equals("else") || m.group(3).equals("return")) {
                continue;
            }
            int parameters = m.group(5).isEmpty() ? 0 : m.group(5).split(",").length;
            Check.due("parameters of " + m.group(4) + " at most seven", parameters <= 7, true);
            int last = i;
            while (last < lines.length && !lines[last].equals(m.group(1) + "}")) {
                last++;
            }
            Check.due("lines of " + m.group(4) + " at most sixty: " + (last - i + 1), last - i + 1 <= 60, true);
            if (m.group(2).contains("public")) {
                open.add(m.group(4));
            } else {
                others.add(m.group(4));
            }
        }
        Check.due("open methods", open.size(), 26);
        for (String name : others) {
            Check.due("an inner method with an open one's name: " + name, open.contains(name), false);
        }
    }
}
