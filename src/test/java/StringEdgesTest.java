/** The edges of strings. */
final class StringEdgesTest {
    public static void main(String[] args) {
        aStringHasNoneTo30Characters();
        anEscapeIsOneCharacter();
        betweenTwoOfTheFirstKind();
        fourEscapes();
        betweenTwoOfTheSecondKind();
        noStringGoesBeyondItsLine();
        aStringEndsWithItsOwnQuote();
        lettersOfAString();
        Due.end();
    }

    private static void string(String text, String want) {
        TableText x = Due.of("s=" + text);
        Due.is("kind of " + text, () -> x.down(0), 3);
        Due.is("value of " + text, x::value, want.length());
        for (int i = 0; i < want.length(); i++) {
            int place = i;
            Due.is("letter(" + i + ") of " + text, () -> x.letter(place), want.charAt(i));
        }
        Due.fails("letter behind the last of " + text, () -> x.letter(want.length()), Due.INDEX);
        Due.fails("letter before the first of " + text, () -> x.letter(-1), Due.INDEX);
    }

    private static void aStringHasNoneTo30Characters() {
        for (int n : new int[] {0, 1, 29, 30}) {
            string("\"" + Due.times("s", n) + "\"", Due.times("s", n));
            string("'" + Due.times("s", n) + "'", Due.times("s", n));
        }
        String most = Due.times("s", 30);
        String[] begins = {"a=", "a = ", "a=[", "a=[1,", "a={b=", "[t]\na.b="};
        for (String begin : begins) {
            Due.wrongAtMark(begin + "\"" + most + "^s\"");
            Due.wrongAtMark(begin + "'" + most + "^s'");
            Due.wrongAtMark(begin + "\"" + most + "^ \"");
            Due.wrongAtMark(begin + "'" + most + "^\"'");
            Due.wrongAtMark(begin + "\"" + most + "^ssssssss");
            Due.wrongAtMark(begin + "'" + most + "^ssssssss");
            Due.wrongAtMark(begin + "'" + most + "^\\'");
        }
    }

    private static void anEscapeIsOneCharacter() {
        String[] escapes = {"\\\"", "\\\\", "\\n", "\\t"};
        char[] codes = {34, 92, 10, 9};
        for (int i = 0; i < escapes.length; i++) {
            string("\"" + Due.times(escapes[i], 30) + "\"", Due.times("" + codes[i], 30));
            string("\"" + Due.times("s", 29) + escapes[i] + "\"", Due.times("s", 29) + codes[i]);
            Due.wrongAtMark("a=\"" + Due.times(escapes[i], 30) + "^s\"");
            Due.wrongAtMark("a=\"" + Due.times("s", 29) + escapes[i] + "^s\"");
        }
        string("'" + Due.times("\\", 30) + "'", Due.times("\\", 30));
        Due.wrongAtMark("a='" + Due.times("\\n", 15) + "^s'");
    }

    private static void betweenTwoOfTheFirstKind() {
        for (char c = 32; c <= 126; c++) {
            if (c != '"' && c != '\\') {
                string("\"" + c + "\"", "" + c);
                string("\"a" + c + "b\"", "a" + c + "b");
            }
        }
    }

    private static void fourEscapes() {
        string("\"\\\"\\\\\\n\\t\"", "\"\\\n\t");
        for (char c = 32; c <= 126; c++) {
            if ("\"\\nt".indexOf(c) < 0) {
                Due.wrongAt("a=\"\\" + c + "\"", 4);
                Due.wrongAt("a=[\"xy\\" + c + "\"]", 7);
            }
        }
        Due.wrongAtMark("a=\"\\^\n\"");
        Due.wrongAtMark("a=\"\\^");
        Due.wrongAtMark("a=\"\\\\\\^");
    }

    private static void betweenTwoOfTheSecondKind() {
        for (char c = 32; c <= 126; c++) {
            if (c != '\'') {
                string("'" + c + "'", "" + c);
                string("'a" + c + "b'", "a" + c + "b");
            }
        }
        string("'\\n'", "\\n");
        string("'\\'", "\\");
    }

    private static void noStringGoesBeyondItsLine() {
        Due.wrongAtMark("a=\"^\n\"");
        Due.wrongAtMark("a='^\n'");
        Due.wrongAtMark("a=\"x^\n\"");
        Due.wrongAtMark("a='x^\n'");
        Due.wrongAtMark("a=[\"x^\n\"]");
        Due.wrongAtMark("a=['x^\n']");
        Due.wrongAtMark("a='" + Due.times("s", 30) + "^\n'");
        Due.wrongAtMark("a=\"" + Due.times("s", 30) + "^\n\"");
        Due.wrongAtMark("a=\"" + Due.times("s", 30) + "^");
        Due.wrongAtMark("a='" + Due.times("s", 30) + "^");
    }

    private static void aStringEndsWithItsOwnQuote() {
        string("\"'\"", "'");
        string("'\"'", "\"");
        Due.wrongAtMark("a=\"x'^");
        Due.wrongAtMark("a='x\"^");
        Due.wrongAtMark("a=\"\"^\"");
        Due.wrongAtMark("a=''^'");
        Due.wrongAtMark("a='x\\'^'");
        Due.wrongAtMark("a=\"x\"^y");
    }

    private static void lettersOfAString() {
        TableText x = Due.of("a='abcdefghijklmnopqrstuvwxyz0123'");
        x.down(0);
        Due.is("value of 30", x::value, 30);
        Due.is("letter(0)", () -> x.letter(0), 'a');
        Due.is("letter(29)", () -> x.letter(29), '3');
        for (int i : new int[] {30, 31, -1, 256, 65536, Integer.MIN_VALUE, Integer.MAX_VALUE}) {
            Due.fails("letter(" + i + ")", () -> x.letter(i), Due.INDEX);
        }
    }
}
