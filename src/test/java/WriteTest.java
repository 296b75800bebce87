/** Promises 4 and 5. */
final class WriteTest {
    public static void main(String[] args) {
        values();
        keysAndStrings();
        whatWasWrittenLast();
        theFirst600AreKept();
        whatIsWrittenReadsAsTheSame();
        Due.end();
    }

    private static void values() {
        Due.reads("", "");
        Due.reads("a=+1_000\nb=-0\nc=-1_2\nd=0xff\ne=1000000", "a = 1000\nb = 0\nc = -12\nd = 255\ne = 1000000\n");
        Due.reads("a=999999999\nb=-999999999\nc=100", "a = 999999999\nb = -999999999\nc = 100\n");
        Due.reads("a=0001-02-03\nb=true\nc=false", "a = 0001-02-03\nb = true\nc = false\n");
        Due.reads("a=[]\nb=[1,[2,[]],{}]\nc={d=[],e={}}", "a = []\nb = [1, [2, []], {}]\nc = {d = [], e = {}}\n");
        Due.reads("[a.b]\n[[c]]\n[[c]]\nd.e=1", "a = {b = {}}\nc = [{}, {d = {e = 1}}]\n");
    }

    private static void keysAndStrings() {
        Due.reads("\"a\"=\"b\"", "a = \"b\"\n");
        Due.reads("\"\"=1\n\" \"=2\n\"a.b\"=3\n\"\\\\\"=4", "\"\" = 1\n\" \" = 2\n\"a.b\" = 3\n\"\\\\\" = 4\n");
        Due.reads("a={\"\\n\\t\\\"'\"='#'}", "a = {\"\\n\\t\\\"'\" = \"#\"}\n");
        Due.reads("\"/\"=1\n\":\"=1\n\"@\"=1\n\"`\"=1", "\"/\" = 1\n\":\" = 1\n\"@\" = 1\n\"`\" = 1\n");
        Due.reads("\"[\"=1\n\"{\"=1\n\"^\"=1\n\",\"=1", "\"[\" = 1\n\"{\" = 1\n\"^\" = 1\n\",\" = 1\n");
        Due.reads("a='\\n\\t\\\\\"'", "a = \"\\\\n\\\\t\\\\\\\\\\\"\"\n");
    }

    private static void whatWasWrittenLast() {
        TableText x = Due.of("a=1");
        Due.fails("written before a write", () -> x.written(0), Due.INDEX);
        Due.is("write", x::write, 6);
        Due.is("written(0)", () -> x.written(0), 'a');
        Due.is("written(5)", () -> x.written(5), '\n');
        Due.fails("written(6)", () -> x.written(6), Due.INDEX);
        Due.fails("written(-1)", () -> x.written(-1), Due.INDEX);
        Due.fails("written(least)", () -> x.written(Integer.MIN_VALUE), Due.INDEX);
        Due.fails("written(most)", () -> x.written(Integer.MAX_VALUE), Due.INDEX);
        Due.type(x, "bcd=[]");
        Due.is("read", x::read, -1);
        Due.is("written stays behind a read", () -> x.written(4), '1');
        x.down(0);
        Due.is("write of the document, wherever the cursor is", x::write, 9);
        Due.is("kind, for the cursor stays", x::kind, 5);
        Due.is("written(7)", () -> x.written(7), ']');
        Due.is("read of nothing", x::read, -1);
        Due.is("write of nothing", x::write, 0);
        Due.fails("written(0) of nothing", () -> x.written(0), Due.INDEX);
    }

    private static void theFirst600AreKept() {
        TableText x = Due.of(Due.times("a.", 99) + "a=1");
        Due.is("write, all are counted", x::write, 100 * 4 + 99 * 2 + 2);
        Due.is("written(599), the last", () -> x.written(599), '\n');
        Due.fails("written(600) of 600", () -> x.written(600), Due.INDEX);
        TableText y = Due.of(Due.times("b.", 118) + "b=1");
        Due.is("write, more than are kept", y::write, 714);
        Due.is("written(599) of 714", () -> y.written(599), '}');
        Due.fails("written(600) of 714", () -> y.written(600), Due.INDEX);
        Due.fails("written(713) of 714", () -> y.written(713), Due.INDEX);
    }

    private static void whatIsWrittenReadsAsTheSame() {
        String[] texts = {
            "a = 1\nb.c = \"x\\\"y\"\n[t.u]\nd = [1, 2,]\n[t]\ne = {f.g = -0, h = {}}\n",
            "\"\"='\\'\n\"\\n\\t\"=\"\\n\\t\\\\\"\n[[r]]\nx=2024-02-29\n[[r]]\n[r.s]\ny=[true,false]",
            "n=0xfffffff\nm=-1_0\n[ a . \"b c\" ]\nd=[[[],{}],{e.f.g='#'}]"};
        for (String text : texts) {
            String once = Due.written(Due.of(text));
            Due.same("write of what was written", Due.written(Due.of(once)), once);
        }
    }
}
