/** The edges of write and written. */
final class WriteEdgesTest {
    public static void main(String[] args) {
        nothingIsWrittenAtFirst();
        anEmptyDocumentIsNoCharacters();
        aLineForEachEntry();
        keysWithoutAndWithQuotes();
        everyCharacterOfKeysAndStrings();
        numbersAtTheirEnds();
        datesHaveFourTwoAndTwoDigits();
        listsAndTablesOfNoneOneAndMany();
        tablesOfEveryKindAreWrittenAlike();
        all600AreKept();
        moreThan600AreCounted();
        whatWasWrittenLastIsShown();
        writtenHasNone();
        theWholeDocumentIsWritten();
        whatIsWrittenReadsAsTheSame();
        Due.end();
    }

    private static void nothingIsWrittenAtFirst() {
        for (int i : new int[] {-1, 0, 1, 599, 600, Integer.MIN_VALUE, Integer.MAX_VALUE}) {
            Due.fails("written(" + i + ") of a new object", () -> new TableText().written(i), Due.INDEX);
            Due.fails("written(" + i + ") before a write", () -> Due.of("a=1").written(i), Due.INDEX);
        }
    }

    private static void anEmptyDocumentIsNoCharacters() {
        TableText x = new TableText();
        Due.is("write", x::write, 0);
        Due.fails("written(0)", () -> x.written(0), Due.INDEX);
        Due.reads("# nothing\n\n", "");
    }

    private static void aLineForEachEntry() {
        Due.reads("a=1", "a = 1\n");
        Due.reads("a=1\nb=2", "a = 1\nb = 2\n");
        Due.reads("b=1\na=2\n[t]\nc=3\nd=4", "b = 1\na = 2\nt = {c = 3, d = 4}\n");
        Due.is("write of one entry", () -> Due.of("a=1").write(), 6);
    }

    private static void keysWithoutAndWithQuotes() {
        Due.reads("\"a\"=1\n\"Z_-9\"=2\n\"0\"=3\n\"-\"=4", "a = 1\nZ_-9 = 2\n0 = 3\n- = 4\n");
        Due.reads("\"\"=1\n\" \"=2\n\"a \"=3\n\" a\"=4\n\"a.b\"=5", "\"\" = 1\n\" \" = 2\n\"a \" = 3\n\" a\" = 4\n\"a.b\" = 5\n");
        Due.reads("t={\"\"=1,\"a\"=2,\"a b\"=3}", "t = {\"\" = 1, a = 2, \"a b\" = 3}\n");
        String most = Due.times("k", 29);
        Due.reads("\"" + most + "k\"=1\n\"" + most + "!\"=2", most + "k = 1\n\"" + most + "!\" = 2\n");
    }

    /** Each code that a key or a string can have: 9, 10, and 32 .. 126. */
    private static void everyCharacterOfKeysAndStrings() {
        for (char c = 32; c <= 126; c++) {
            String shown = c == '"' || c == '\\' ? "\\" + c : "" + c;
            boolean bare = c >= 'a' && c <= 'z' || c >= 'A' && c <= 'Z' || c >= '0' && c <= '9' || c == '_' || c == '-';
            String key = bare ? shown : "\"" + shown + "\"";
            Due.reads("\"" + shown + "\"=\"" + shown + "\"", key + " = \"" + shown + "\"\n");
            if (c != '\'') {
                Due.reads("a='" + c + "'", "a = \"" + shown + "\"\n");
            }
        }
        Due.reads("\"\\n\"=\"\\n\"\n\"\\t\"=\"\\t\"", "\"\\n\" = \"\\n\"\n\"\\t\" = \"\\t\"\n");
        Due.reads("a=''\nb=\"\"", "a = \"\"\nb = \"\"\n");
        String backslashes = Due.times("\\", 30);
        Due.reads("a='" + backslashes + "'", "a = \"" + backslashes + backslashes + "\"\n");
    }

    private static void numbersAtTheirEnds() {
        for (int n = 1; n <= 9; n++) {
            String least = "1" + Due.times("0", n - 1);
            String most = Due.times("9", n);
            Due.reads("a=" + least + "\nb=-" + least, "a = " + least + "\nb = -" + least + "\n");
            Due.reads("a=" + most + "\nb=-" + most, "a = " + most + "\nb = -" + most + "\n");
        }
        Due.reads("a=0\nb=+0\nc=-0\nd=0x0", "a = 0\nb = 0\nc = 0\nd = 0\n");
        Due.reads("a=+1\nb=1_0\nc=-1_0_0\nd=0xfffffff\ne=0x0_a", "a = 1\nb = 10\nc = -100\nd = 268435455\ne = 10\n");
        Due.reads("a=909090909\nb=100000000\nc=10203", "a = 909090909\nb = 100000000\nc = 10203\n");
    }

    private static void datesHaveFourTwoAndTwoDigits() {
        for (String date : new String[] {"0000-01-01", "0000-10-10", "0009-09-09", "0099-12-31", "0999-01-31", "1000-10-01", "9999-12-31"}) {
            Due.reads("a=" + date + "\nb=[" + date + "]", "a = " + date + "\nb = [" + date + "]\n");
        }
    }

    private static void listsAndTablesOfNoneOneAndMany() {
        Due.reads("a=[]\nb=[1]\nc=[1,2]\nd=[1,2,3,]", "a = []\nb = [1]\nc = [1, 2]\nd = [1, 2, 3]\n");
        Due.reads("a={}\nb={x=1}\nc={x=1,y=2}", "a = {}\nb = {x = 1}\nc = {x = 1, y = 2}\n");
        Due.reads("a=[[],[[]],{}]\nb={c={},d={e=[]}}", "a = [[], [[]], {}]\nb = {c = {}, d = {e = []}}\n");
        Due.reads("a=[true,false,'s',2024-02-29,-1]", "a = [true, false, \"s\", 2024-02-29, -1]\n");
        Due.reads("a=[[1,2],[3]]\nb=4", "a = [[1, 2], [3]]\nb = 4\n");
        Due.reads("a={b={c=1},d=2}\ne=3", "a = {b = {c = 1}, d = 2}\ne = 3\n");
    }

    private static void tablesOfEveryKindAreWrittenAlike() {
        Due.reads("[t]\nx=1", "t = {x = 1}\n");
        Due.reads("t.x=1", "t = {x = 1}\n");
        Due.reads("t={x=1}", "t = {x = 1}\n");
        Due.reads("[i.t]\nx=1", "i = {t = {x = 1}}\n");
        Due.reads("[[t]]\nx=1", "t = [{x = 1}]\n");
        Due.reads("t=[{x=1}]", "t = [{x = 1}]\n");
        Due.reads("[t]", "t = {}\n");
        Due.reads("[i.t]", "i = {t = {}}\n");
        Due.reads("[[t]]\n[[t]]", "t = [{}, {}]\n");
    }

    /** A path of n parts with a value of d digits is written as 6 n - 1 + d characters. */
    private static TableText longDocument(int parts, String digits) {
        return Due.of(Due.times("a.", parts - 1) + "a=" + digits);
    }

    private static void all600AreKept() {
        TableText less = longDocument(99, "123456");
        Due.is("write of 599", less::write, 599);
        Due.is("written(598) of 599", () -> less.written(598), '\n');
        Due.fails("written(599) of 599", () -> less.written(599), Due.INDEX);
        TableText just = longDocument(100, "1");
        Due.is("write of 600", just::write, 600);
        Due.is("written(0) of 600", () -> just.written(0), 'a');
        Due.is("written(598) of 600", () -> just.written(598), '}');
        Due.is("written(599) of 600", () -> just.written(599), '\n');
        Due.fails("written(600) of 600", () -> just.written(600), Due.INDEX);
    }

    private static void moreThan600AreCounted() {
        TableText more = longDocument(100, "12");
        Due.is("write of 601", more::write, 601);
        Due.is("written(599) of 601", () -> more.written(599), '}');
        Due.fails("written(600) of 601", () -> more.written(600), Due.INDEX);
        Due.fails("written(601) of 601", () -> more.written(601), Due.INDEX);
        TableText most = longDocument(119, "12");
        Due.is("write of 715", most::write, 715);
        Due.is("written(599) of 715", () -> most.written(599), '}');
        for (int i = 600; i <= 716; i++) {
            int place = i;
            Due.fails("written(" + i + ") of 715", () -> most.written(place), Due.INDEX);
        }
        Due.type(most, "b=2");
        Due.is("read", most::read, -1);
        Due.is("write of 6 behind 715", most::write, 6);
        Due.is("written(0) of 6", () -> most.written(0), 'b');
        Due.fails("written(6) of 6", () -> most.written(6), Due.INDEX);
        Due.fails("written(599) of 6", () -> most.written(599), Due.INDEX);
    }

    private static void whatWasWrittenLastIsShown() {
        TableText x = Due.of("a=1");
        x.write();
        Due.type(x, "bb=22");
        Due.is("written(0) behind type", () -> x.written(0), 'a');
        x.read();
        Due.is("written(0) behind read", () -> x.written(0), 'a');
        Due.fails("written(6) behind read", () -> x.written(6), Due.INDEX);
        x.down(0);
        x.top();
        Due.is("written(0) behind top", () -> x.written(0), 'a');
        Due.is("write again", x::write, 8);
        Due.is("written(0) behind a second write", () -> x.written(0), 'b');
        Due.is("written(7) behind a second write", () -> x.written(7), '\n');
        Due.type(x, "!");
        x.read();
        Due.is("written(7) behind a wrong read", () -> x.written(7), '\n');
        x.read();
        Due.is("write of none behind 8", x::write, 0);
        Due.fails("written(0) of none behind 8", () -> x.written(0), Due.INDEX);
    }

    private static void writtenHasNone() {
        TableText x = Due.of("a=1");
        x.write();
        for (int i : new int[] {-1, 6, 7, 255, 256, 599, 600, 65536, Integer.MIN_VALUE, Integer.MAX_VALUE}) {
            Due.fails("written(" + i + ") of 6", () -> x.written(i), Due.INDEX);
        }
        String due = "a = 1\n";
        for (int i = 0; i < 6; i++) {
            int place = i;
            Due.is("written(" + i + ") of 6", () -> x.written(place), due.charAt(i));
        }
    }

    private static void theWholeDocumentIsWritten() {
        TableText x = Due.of("a=[1,[2]]\nb=3");
        Due.walk(x, 0, 1, 0);
        Due.same("written from within", Due.written(x), "a = [1, [2]]\nb = 3\n");
        Due.is("the cursor stays", x::value, 2);
    }

    private static void whatIsWrittenReadsAsTheSame() {
        String[] texts = {"", "a=1", "\"\"=''", "\"\\\"\\\\\\n\\t\"=\"\\\"\\\\\\n\\t\"", "a='\\n\"'", "a=-0\nb=0xff\nc=+1_0",
            "a=0001-01-01\nb=true\nc=false", "a=[[[[[[]]]]]]", "a={a={a={a={a={a={}}}}}}", "[a.b]\n[a]\nc=1\n[[d]]\n[[d]]\ne.f=2"};
        for (String text : texts) {
            String once = Due.written(Due.of(text));
            Due.reads(once, once);
        }
    }
}
