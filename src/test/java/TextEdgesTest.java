/** The edges of a text, of blanks, comments and lines, and of the place where a text is wrong. */
final class TextEdgesTest {
    public static void main(String[] args) {
        aTextHas240CharactersAtMost();
        theLastCharactersOfAFullTextAreRead();
        blanksAreAnyNumber();
        aCommentIsAllUpToTheEndOfTheLine();
        whatALineBeginsWith();
        whatStandsBehindAnEntry();
        aLineEndsWithTheLineOrTheText();
        thePlaceIsTheEndOfTheText();
        theFirstWrongOneIsTold();
        Due.end();
    }

    private static void aTextHas240CharactersAtMost() {
        for (int n = 1; n <= 8; n++) {
            int count = n;
            TableText full = new TableText();
            Due.type(full, "#" + Due.times("x", 239 - n));
            Due.is("type " + n + " up to 240", () -> full.type(0x6161616161616161L, count), 240);
            Due.fails("type 1 behind 240", () -> full.type('a', 1), Due.STATE);
            TableText over = new TableText();
            Due.type(over, "#" + Due.times("x", 240 - n));
            Due.fails("type " + n + " up to 241", () -> over.type(0x6161616161616161L, count), Due.STATE);
        }
    }

    private static void theLastCharactersOfAFullTextAreRead() {
        Due.reads(Due.times(" ", 237) + "a=7", "a = 7\n");
        Due.reads(Due.times("\n", 235) + "a=[7]", "a = [7]\n");
        Due.reads("#" + Due.times("x", 235) + "\na=7", "a = 7\n");
        Due.wrongAt("#" + Due.times("x", 234) + "\na=7!", 239);
        Due.wrongAt("#" + Due.times("x", 235) + "\na==", 239);
        Due.wrongAt("#" + Due.times("x", 236) + "\na=", 240);
        Due.wrongAt("#" + Due.times("x", 235) + "\na='", 240);
        Due.wrongAt(Due.times("a.", 120), 240);
        Due.wrongAt("a=[" + Due.times("1,", 118) + "1", 240);
        Due.reads("a=[" + Due.times("1,", 118) + "]", "a = [" + Due.times("1, ", 117) + "1]\n");
        Due.reads("a=[" + Due.times("\n", 236) + "]", "a = []\n");
    }

    /** In each place where there may be blanks: none, one, and many. */
    private static void blanksAreAnyNumber() {
        String[] entries = {"~a~=~1~", "~a~.~b~=~1~", "~a~=~[~1~,~2~]~", "~a~=~{~b~=~1~,~c~=~2~}~", "~a~=~1~#", "~a~=~{~}~", "~a~=~[~]~"};
        String[] headers = {"~[~a~]~", "~[[~a~.~b~]]~", "~[~a~.~b~]~#"};
        for (int blanks : new int[] {0, 1, 2, 15}) {
            for (String text : entries) {
                Due.same("write, blanks: " + blanks, Due.written(Due.of(spread(text, blanks))), Due.written(Due.of(spread(text, 0))));
            }
            for (String text : headers) {
                Due.same("write, blanks: " + blanks, Due.written(Due.of(spread(text, blanks))), Due.written(Due.of(spread(text, 0))));
            }
        }
        Due.reads(spread("~a~.~b~=~[~1~,~2~]~", 15), "a = {b = [1, 2]}\n");
        Due.reads(spread("~a~=~{~b~=~1~,~c~=~2~}~", 15), "a = {b = 1, c = 2}\n");
        Due.reads(spread("~[~a~.~b~]~#", 15), "a = {b = {}}\n");
        Due.reads(Due.times(" ", 240), "");
        Due.wrongAtMark("a ^b=1");
        Due.wrongAtMark("a=1 ^1");
        Due.wrongAtMark("a=t^ rue");
        Due.wrongAtMark("a=-^ 1");
        Due.wrongAtMark("[ ^[a]]");
        Due.wrongAtMark("[[a]^ ]");
    }

    private static String spread(String text, int blanks) {
        return text.replace("~", Due.times(" ", blanks));
    }

    private static void aCommentIsAllUpToTheEndOfTheLine() {
        StringBuilder all = new StringBuilder("#");
        for (char c = 32; c <= 126; c++) {
            all.append(c);
        }
        Due.reads(all + "\na=1", "a = 1\n");
        Due.reads("a=1" + all + "\n[t]" + all + "\nb=2", "a = 1\nt = {b = 2}\n");
        Due.reads("#\n#\n##\na=1#", "a = 1\n");
        Due.reads("a=[" + all + "\n1" + all + "\n]", "a = [1]\n");
        Due.reads("# a=1", "");
        Due.wrongAtMark("#\n^!");
        Due.wrongAtMark("a=[#\n#]\n^");
    }

    /** Nothing, a header or an entry: every character that can not begin one of these is wrong where it stands. */
    private static void whatALineBeginsWith() {
        for (char c = 32; c <= 126; c++) {
            boolean begins = isBare(c) || c == '"' || c == '[' || c == '#' || c == ' ';
            if (!begins) {
                Due.wrongAt(c + "=1", 0);
                Due.wrongAt("a=1\n  " + c, 6);
            }
        }
        Due.reads("", "");
        Due.reads("\n", "");
        Due.reads(" \n \n ", "");
        Due.reads("a=1", "a = 1\n");
        Due.reads("[a]", "a = {}\n");
    }

    private static void whatStandsBehindAnEntry() {
        for (char c = 33; c <= 126; c++) {
            if (c != '#') {
                Due.wrongAt("a='' " + c, 5);
                Due.wrongAt("[a] " + c, 4);
                Due.wrongAt("[[a]] " + c, 6);
            }
        }
    }

    private static void aLineEndsWithTheLineOrTheText() {
        String[] lines = {"a=1", "a=1 ", "a=1#", "[a]", "[a] # x", "[[a]]", "", " ", "#"};
        for (String line : lines) {
            String once = Due.written(Due.of(line));
            Due.reads(line + "\n", once);
            Due.reads(line + "\n\n", once);
            Due.reads("\n" + line, once);
        }
        Due.wrongAtMark("a^\n=1");
        Due.wrongAtMark("a=^\n1");
        Due.wrongAtMark("a.^\nb=1");
        Due.wrongAtMark("a^\n.b=1");
        Due.wrongAtMark("[^\na]");
        Due.wrongAtMark("[a^\n]");
        Due.wrongAtMark("[a.^\nb]");
        Due.wrongAtMark("[[a^\n]]");
    }

    /** A text that is right but for its end: each beginning of it that is wrong is wrong at its end. */
    private static void thePlaceIsTheEndOfTheText() {
        String[] texts = {"abc", "abc ", "a.", "a . ", "a=", "a = ", "\"", "\"a", "\"\\", "\"a\" ", "[", "[ ", "[a", "[a ", "[a.", "[\"",
            "[[", "[[a", "[[a ", "[[a]", "a=+", "a=-", "a=1_", "a=0x", "a=0xf_", "a=2023-", "a=2023-0", "a=2023-01", "a=2023-01-",
            "a=2023-01-0", "a=t", "a=tr", "a=tru", "a=f", "a=fals", "a=\"", "a='", "a=\"x", "a='x", "a=\"\\", "a=[", "a=[ ", "a=[\n",
            "a=[#", "a=[1", "a=[1 ", "a=[1,", "a=[1, ", "a=[1,\n", "a=[[]", "a={", "a={ ", "a={b", "a={b ", "a={b=", "a={b=1",
            "a={b=1 ", "a={b=1,", "a={b=1, ", "a={b=[", "a={b={}", "a=[{}"};
        for (String text : texts) {
            Due.wrongAt(text, text.length());
            Due.wrongAt("k=1\n" + text, text.length() + 4);
        }
    }

    private static void theFirstWrongOneIsTold() {
        Due.wrongAtMark("a=0^5\nb=!\n!");
        Due.wrongAtMark("a=1\n^a=2\n!");
        Due.wrongAtMark("^!\na=1\na=2");
        Due.wrongAtMark("a=2023-^13-99x");
        Due.wrongAtMark("a=1\na.^!");
        Due.wrongAtMark("a=1\n^a.b=!");
    }

    private static boolean isBare(char c) {
        return "abcdefghijklmnopqrstuvwxyzABCDEFGHIJKLMNOPQRSTUVWXYZ0123456789_-".indexOf(c) >= 0;
    }
}
