/** The edges of keys, of the parts of a path, and of two keys being alike. */
final class KeyEdgesTest {
    private static final String BARE = "abcdefghijklmnopqrstuvwxyzABCDEFGHIJKLMNOPQRSTUVWXYZ0123456789_-";

    public static void main(String[] args) {
        aKeyHas1To30Characters();
        anEscapeIsOneCharacterOfAKey();
        aKeyInQuotesMayHaveNone();
        thereIsNoPartOfNothing();
        whatAPartIsMadeOf();
        aPartInQuotesHoldsWhatAStringHolds();
        noTwoKeysAlike();
        keysThatDifferAreNotAlike();
        aPathHasOneDotBetweenTwoParts();
        aPathIsLookedAtWithTheBlanksBehindIt();
        Due.end();
    }

    private static void aKeyHas1To30Characters() {
        for (int n : new int[] {1, 2, 29, 30}) {
            String key = Due.times("k", n);
            Due.reads(key + "=1", key + " = 1\n");
            Due.reads("\"" + key + "\"=1", key + " = 1\n");
            Due.reads("[" + key + "]", key + " = {}\n");
            Due.reads("[[" + key + "]]", key + " = [{}]\n");
            Due.reads("a={" + key + "=1}", "a = {" + key + " = 1}\n");
            Due.reads(key + "." + key + "=1", key + " = {" + key + " = 1}\n");
        }
        String most = Due.times("k", 30);
        String[] begins = {"", "a.", "[", "[[", "[a.", "[[a.", "a={", "a={b=1,", "a={b.", "a=1\n", "[a]\n"};
        for (String begin : begins) {
            Due.wrongAtMark(begin + most + "^k=1");
            Due.wrongAtMark(begin + most + "^kkkkkkkk");
            Due.wrongAtMark(begin + most + "^-.b=1");
            Due.wrongAtMark(begin + "\"" + most + "^k\"=1");
            Due.wrongAtMark(begin + "\"" + most + "^ \"]");
        }
        TableText x = Due.of("abcdefghijklmnopqrstuvwxyz-_09=1");
        x.down(0);
        Due.same("all of a key", Due.key(x), "abcdefghijklmnopqrstuvwxyz-_09");
        Due.is("key(29) of 30", () -> x.key(29), '9');
        Due.is("key(30) of 30", () -> x.key(30), -1);
    }

    private static void anEscapeIsOneCharacterOfAKey() {
        String[] escapes = {"\\\"", "\\\\", "\\n", "\\t"};
        for (String escape : escapes) {
            String most = Due.times(escape, 30);
            Due.reads("\"" + most + "\"=1", "\"" + most + "\" = 1\n");
            Due.wrongAtMark("\"" + most + "^k\"=1");
            Due.wrongAtMark("[\"" + most + "^k\"]");
        }
    }

    private static void aKeyInQuotesMayHaveNone() {
        Due.reads("\"\"=1", "\"\" = 1\n");
        Due.reads("\"\".\"\"=1", "\"\" = {\"\" = 1}\n");
        Due.reads("a.\"\".b=1", "a = {\"\" = {b = 1}}\n");
        Due.reads("[\"\"]", "\"\" = {}\n");
        Due.reads("[[\"\".\"\"]]", "\"\" = {\"\" = [{}]}\n");
        Due.reads("a={\"\"=1}", "a = {\"\" = 1}\n");
        Due.wrongAtMark("\"\"=1\n^\"\"=2");
        Due.wrongAtMark("a={\"\"=1,^\"\"=2}");
        Due.wrongAtMark("[\"\"]\n[^\"\"]");
        TableText x = Due.of("\"\"=1");
        x.down(0);
        Due.is("key(0) of a key of none", () -> x.key(0), -1);
    }

    private static void thereIsNoPartOfNothing() {
        String[] begins = {"", "a.", "a . ", "[", "[ ", "[[", "[a.", "[[a.", "a={b.", "a={b=1,"};
        for (String begin : begins) {
            for (String end : new String[] {"", "=1", ".b=1", " .", "]", "''=1", "\n", "#"}) {
                boolean nothingOnALine = begin.isEmpty() && (end.isEmpty() || end.equals("\n") || end.equals("#"));
                if (!nothingOnALine) {
                    int blanks = end.startsWith(" ") ? 1 : 0;
                    Due.wrongAt(begin + end, begin.length() + blanks);
                }
            }
        }
    }

    /** One or more of a .. z, A .. Z, 0 .. 9, _ and - : each of these, and each that is none of these. */
    private static void whatAPartIsMadeOf() {
        for (char c = 32; c <= 126; c++) {
            if (BARE.indexOf(c) >= 0) {
                Due.reads(c + "=1", c + " = 1\n");
                Due.reads("a." + c + "b=1", "a = {" + c + "b = 1}\n");
                Due.reads("[a" + c + "]", "a" + c + " = {}\n");
            } else {
                Due.reads("\"" + (c == '"' || c == '\\' ? "\\" : "") + c + "\"=1", "\"" + (c == '"' || c == '\\' ? "\\" : "") + c + "\" = 1\n");
            }
            if (BARE.indexOf(c) < 0 && " .=".indexOf(c) < 0) {
                Due.wrongAt("a" + c + "=1", 1);
                Due.wrongAt("x={a" + c + "=1}", 4);
            }
            if (BARE.indexOf(c) < 0 && " .]".indexOf(c) < 0) {
                Due.wrongAt("[a" + c, 2);
                Due.wrongAt("[[a" + c, 3);
            }
            if (BARE.indexOf(c) < 0 && " \"".indexOf(c) < 0) {
                Due.wrongAt("a." + c + "=1", 2);
                Due.wrongAt("[[a." + c + "]]", 4);
            }
        }
    }

    private static void aPartInQuotesHoldsWhatAStringHolds() {
        Due.reads("\"a'#[]{}=.,\"=1", "\"a'#[]{}=.,\" = 1\n");
        Due.wrongAtMark("\"a^\nb\"=1");
        Due.wrongAtMark("\"a^");
        for (char c = 32; c <= 126; c++) {
            if ("\"\\nt".indexOf(c) < 0) {
                Due.wrongAt("\"\\" + c + "\"=1", 2);
                Due.wrongAt("[\"\\" + c + "\"]", 3);
            }
        }
        Due.wrongAtMark("\"\\^\n\"=1");
        Due.wrongAtMark("^'a'=1");
        Due.wrongAtMark("[^'a']");
        Due.wrongAtMark("a={^'b'=1}");
    }

    private static void noTwoKeysAlike() {
        String most = Due.times("k", 30);
        Due.wrongAtMark("a=1\n^a=1");
        Due.wrongAtMark("a=1\nb=2\nc=3\n^a=4");
        Due.wrongAtMark("a=1\n^\"a\"=2");
        Due.wrongAtMark("\"a\"=1\n^a=2");
        Due.wrongAtMark("a=1\n\"a b\"=2\n ^\"a b\" = 3");
        Due.wrongAtMark("\"\\n\"=1\n^\"\\n\"=2");
        Due.wrongAtMark(most + "=1\n^" + most + "=2");
        Due.wrongAtMark("a.b=1\na.^b=2");
        Due.wrongAtMark("a.b=1\na.^\"b\"=2");
        Due.wrongAtMark("x={a=1,^a=2}");
        Due.wrongAtMark("x={a=1, ^\"a\"=2}");
        Due.wrongAtMark("x=[{a=1},{a=1,^a=2}]");
        Due.wrongAtMark("[t]\na=1\n[u]\na=1\n^a=2");
    }

    private static void keysThatDifferAreNotAlike() {
        String nearly = Due.times("k", 29);
        Due.reads("a=1\nA=2\n\"a \"=3\n\" a\"=4\naa=5\n\"\"=6", "a = 1\nA = 2\n\"a \" = 3\n\" a\" = 4\naa = 5\n\"\" = 6\n");
        Due.reads(nearly + "a=1\n" + nearly + "b=2\n" + nearly + "=3", nearly + "a = 1\n" + nearly + "b = 2\n" + nearly + " = 3\n");
        Due.reads("1=1\n01=2\n\"a.b\"=3\na.b=4", "1 = 1\n01 = 2\n\"a.b\" = 3\na = {b = 4}\n");
        Due.reads("\"\\n\"=1\nn=2\n\"\\\\n\"=3", "\"\\n\" = 1\nn = 2\n\"\\\\n\" = 3\n");
        Due.reads("a={a=1}\nb={a=1}\n[t]\na=1\n[t.a2]\na=1", "a = {a = 1}\nb = {a = 1}\nt = {a = 1, a2 = {a = 1}}\n");
        Due.reads("x=[{a=1},{a=1}]\n[[r]]\na=1\n[[r]]\na=1", "x = [{a = 1}, {a = 1}]\nr = [{a = 1}, {a = 1}]\n");
    }

    private static void aPathHasOneDotBetweenTwoParts() {
        Due.reads("a=1", "a = 1\n");
        Due.reads("a.b.c=1", "a = {b = {c = 1}}\n");
        Due.reads("a.a.a=1", "a = {a = {a = 1}}\n");
        Due.reads("1.2=3", "1 = {2 = 3}\n");
        Due.reads("\"a\".\"b\"=1", "a = {b = 1}\n");
        Due.wrongAtMark("a.^.b=1");
        Due.wrongAtMark("^.a=1");
        Due.wrongAtMark("a.b.^=1");
        Due.wrongAtMark("a ^b=1");
        Due.wrongAtMark("\"a\"^\"b\"=1");
        Due.wrongAtMark("\"a\"^b=1");
        Due.wrongAtMark("a^\"b\"=1");
        Due.wrongAtMark("[^.a]");
        Due.wrongAtMark("[a.^.b]");
        Due.wrongAtMark("[a.^]");
        Due.wrongAtMark("x={^.a=1}");
    }

    /** What stands behind the blanks is not asked before what the path leads to is. */
    private static void aPathIsLookedAtWithTheBlanksBehindIt() {
        for (String end : new String[] {"", " ", "!", "  !", "\n", " #", "=", " = !", "]"}) {
            Due.wrongAtMark("a=1\n^a" + end);
            Due.wrongAtMark("a=1\n^a.b" + end);
            Due.wrongAtMark("a=1\n[^a" + end);
            Due.wrongAtMark("a=1\n[[ ^a.b" + end);
            Due.wrongAtMark("a={b=1,^b" + end);
        }
        Due.wrongAtMark("a=1\na.^!");
        Due.wrongAtMark("a=1\na . ^");
        Due.wrongAtMark("a=1\n[a.b.^]");
        Due.wrongAtMark("a=1\na." + Due.times("k", 30) + "^k=1");
        Due.wrongAtMark("a=1\na.\"b^");
    }
}
