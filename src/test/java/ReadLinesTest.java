/** Promise 3: what a read does to the document, and what a line is. */
final class ReadLinesTest {
    public static void main(String[] args) {
        eachReadBeginsAnew();
        aWrongReadKeepsDocumentAndCursor();
        nothingIsSeenOfAnEarlierText();
        lines();
        headersAndWhatIsBehind();
        Due.end();
    }

    private static void eachReadBeginsAnew() {
        TableText x = Due.of("a=1\n[t]\nb=2");
        Due.walk(x, 1, 0);
        Due.type(x, "a=3");
        Due.is("read again", x::read, -1);
        Due.is("kind at the document", x::kind, 7);
        Due.fails("up at the document", x::up, Due.STATE);
        Due.same("written", Due.written(x), "a = 3\n");
        x.down(0);
        Due.is("read of nothing", x::read, -1);
        Due.is("entries of nothing", x::value, 0);
        Due.fails("up after nothing", x::up, Due.STATE);
    }

    private static void aWrongReadKeepsDocumentAndCursor() {
        TableText x = Due.of("[t]\na.b={c.d='deep'}");
        Due.walk(x, 0, 0, 0, 0, 0);
        Due.type(x, "[t]\na.b.e=1\n!");
        Due.is("a wrong read", x::read, 12);
        Due.is("kind", x::kind, 3);
        Due.is("letter", () -> x.letter(3), 'p');
        Due.is("up 1", x::up, 10);
        Due.is("up 2", x::up, 10);
        Due.is("up 3", x::up, 9);
        Due.is("up 4", x::up, 7);
        Due.is("up 5", x::up, 7);
        Due.same("written", Due.written(x), "t = {a = {b = {c = {d = \"deep\"}}}}\n");
        Due.is("read of the text that is empty now", x::read, -1);
        Due.is("entries", x::top, 0);
    }

    /** Each beginning of a text is read behind the whole text as by a new object. */
    private static void nothingIsSeenOfAnEarlierText() {
        String whole = "[a . \"b\\n\"] #c\nd=2024-02-29\ne=[1_0, {f=true},\n'g' ]\n[[ h ]]\ni=0xf\nj=-12";
        for (int n = 0; n <= whole.length(); n++) {
            String begin = whole.substring(0, n);
            TableText fresh = new TableText();
            Due.type(fresh, begin);
            int place = fresh.read();
            TableText x = Due.of(whole);
            Due.type(x, begin);
            Due.is("read of the first " + n + " characters again", x::read, place);
            Due.same("written", Due.written(x), Due.written(place < 0 ? fresh : Due.of(whole)));
        }
    }

    private static void lines() {
        Due.reads("\n\n\n", "");
        Due.reads("   ", "");
        Due.reads("#", "");
        Due.reads("  # a = 1\n# ~!@$%^&*()[]{}\"'\\", "");
        Due.reads("  a  =  1  # one\n\n b=2#two\nc = 3", "a = 1\nb = 2\nc = 3\n");
        Due.reads(Due.times("\n", 240), "");
        Due.wrongAtMark("^=1");
        Due.wrongAtMark("a=1\n  ^!");
        Due.wrongAtMark("a=1\n^]");
        Due.wrongAtMark("a=1 ^b=2");
        Due.wrongAtMark("a=1^,");
        Due.wrongAtMark("a^");
        Due.wrongAtMark("a^\n");
        Due.wrongAtMark("a ^b");
        Due.wrongAtMark("a ^# = 1");
        Due.wrongAtMark("a =^");
        Due.wrongAtMark("a = ^\n1");
        Due.wrongAtMark("a = ^# 1");
        Due.wrongAtMark("a = ^=");
        Due.wrongAtMark("a^: 1");
    }

    private static void headersAndWhatIsBehind() {
        Due.reads("  [ a ]  # t\nx=1", "a = {x = 1}\n");
        Due.reads("[[ a ]]# t\nx=1", "a = [{x = 1}]\n");
        Due.wrongAtMark("[^]");
        Due.wrongAtMark("[ ^]");
        Due.wrongAtMark("[^");
        Due.wrongAtMark("[[^");
        Due.wrongAtMark("[ ^[a]]");
        Due.wrongAtMark("[[^[a]]]");
        Due.wrongAtMark("[a^");
        Due.wrongAtMark("[a ^b]");
        Due.wrongAtMark("[a^\n]");
        Due.wrongAtMark("[a]^]");
        Due.wrongAtMark("[a] ^x=1");
        Due.wrongAtMark("[[a^");
        Due.wrongAtMark("[[a]^");
        Due.wrongAtMark("[[a]^ ]");
        Due.wrongAtMark("[[a]^\n");
        Due.wrongAtMark("[[a]]^]");
        Due.wrongAtMark("[[a]] ^x=1");
        Due.wrongAtMark("[a^=1]");
    }
}
