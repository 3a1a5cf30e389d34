import java.util.HashMap;
import java.util.Map;
import java.util.regex.Pattern;

/**
 * Every text of up to five of the signs of lines, and full lines with one sign put in or replaced: whether it is a
 * line, and the error position as it is worded, by looking for a line that starts as the text does.
 */
public final class TextTests {
    private static final String SIGNS = "abcdu:>034";
    private static final int LENGTH = 5;
    /** A start of a line wants at most two signs more: a block and a colon. */
    private static final int MORE = 2;

    private final int blocks;
    private final Pattern line;
    private final Map<String, Boolean> starts = new HashMap<>();

    private TextTests(int blocks) {
        this.blocks = blocks;
        char last = (char) ('a' + blocks - 1);
        String edges = blocks > 1 ? "(?:>(?:([b-" + last + "])(?!.*\\1)){1,3})?" : "";
        line = Pattern.compile("[a-" + last + "]:(?:[du][0-3]){0,6}" + edges);
    }

    public static void main(String[] args) {
        for (int blocks = 1; blocks <= 4; blocks++) {
            TextTests tests = new TextTests(blocks);
            tests.all("");
            tests.oneWrong("a:d0u3d0u3d0u3" + ">bcd".substring(0, blocks > 1 ? blocks : 0));
            tests.oneWrong("a:d0u3" + ">bcd".substring(0, blocks > 1 ? blocks : 0));
        }
        Check.end("TextTests");
    }

    private void all(String text) {
        test(text);
        if (text.length() < LENGTH) {
            for (char sign : SIGNS.toCharArray()) {
                all(text + sign);
            }
        }
    }

    private void oneWrong(String text) {
        for (int at = 0; at <= text.length(); at++) {
            test(text.substring(0, at));
            for (char sign = ' '; sign <= '~'; sign++) {
                test(text.substring(0, at) + sign + text.substring(at));
                test(text.substring(0, at) + sign + text.substring(Math.min(at + 1, text.length())));
            }
        }
    }

    private boolean isStart(String text) {
        return starts.computeIfAbsent(text, any -> leadsToLine(text, MORE));
    }

    private boolean leadsToLine(String text, int more) {
        boolean leads = line.matcher(text).matches();
        for (int at = 0; at < SIGNS.length() && more > 0 && !leads; at++) {
            leads = leadsToLine(text + SIGNS.charAt(at), more - 1);
        }
        return leads;
    }

    private void test(String text) {
        SsaRepair x = new SsaRepair();
        x.reset(blocks);
        Check.type(x, text);
        String what = blocks + " blocks, " + text;
        if (line.matcher(text).matches()) {
            Check.is(what, Check.answer(x::define), String.valueOf(text.charAt(0) - 'a'));
            Check.is(what + ": graph", (" " + Check.show(x) + " ").contains(" " + text + " "), true);
            return;
        }
        Check.is(what, Check.answer(x::define), "throws.IllegalArgumentException");
        int due = 0;
        while (due < text.length() && isStart(text.substring(0, due + 1))) {
            due++;
        }
        Check.is(what + ": error position", Check.answer(x::errorPosition), String.valueOf(due));
        Check.is(what + ": input", x.append('a'), 1);
    }
}
