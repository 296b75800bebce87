/** The edges of lists and closed tables, and how deep they lie. */
final class ListEdgesTest {
    public static void main(String[] args) {
        aListOfNoneOneAndMany();
        commasInAList();
        whatIsAroundTheValuesOfAList();
        aCommentInAListEndsWithItsLine();
        aListOfTablesIsPlain();
        aClosedTableOfNoneOneAndMany();
        commasInAClosedTable();
        blanksAloneAreInAClosedTable();
        tablesByDotsAreClosedWhenItEnds();
        tablesByDotsOutsideStayDotted();
        sixDeep();
        sevenDeep();
        tablesByDotsAndHeadersAreNotCounted();
        whatEndedIsNotCounted();
        Due.end();
    }

    private static void values(String text, int want) {
        TableText x = Due.of("a=" + text);
        Due.is("kind of " + text, () -> x.down(0), 5);
        Due.is("value of " + text, x::value, want);
    }

    private static void aListOfNoneOneAndMany() {
        values("[]", 0);
        values("[ ]", 0);
        values("[\n]", 0);
        values("[1]", 1);
        values("[1,2]", 2);
        values("[[]]", 1);
        values("[[],[]]", 2);
        values("[" + Due.times("1,", 117) + "1]", 118);
        TableText x = Due.of("a=[" + Due.times("1,", 116) + "2,3]");
        x.down(0);
        Due.is("down to the last", () -> x.down(117), 1);
        Due.is("the last", x::value, 3);
        x.up();
        Due.fails("down behind the last", () -> x.down(118), Due.INDEX);
    }

    private static void commasInAList() {
        values("[1,]", 1);
        values("[1 , ]", 1);
        values("[1,2,]", 2);
        values("[[],]", 1);
        values("[{},]", 1);
        Due.wrongAtMark("a=[^,]");
        Due.wrongAtMark("a=[ ^,1]");
        Due.wrongAtMark("a=[1,^,]");
        Due.wrongAtMark("a=[1,^,2]");
        Due.wrongAtMark("a=[1, ^, 2]");
        Due.wrongAtMark("a=[1 ^1]");
        Due.wrongAtMark("a=[1\n^1]");
        Due.wrongAtMark("a=[''^'']");
        Due.wrongAtMark("a=[]^,");
        Due.wrongAtMark("a=[[]^[]]");
    }

    private static void whatIsAroundTheValuesOfAList() {
        String[] around = {" ", "\n", "#\n", "# x ] , \n", " \n \n ", "\n#a\n#b\n "};
        for (String some : around) {
            values("[" + some + "]", 0);
            values("[" + some + "1" + some + "]", 1);
            values("[" + some + "1" + some + "," + some + "]", 1);
            values("[" + some + "1" + some + "," + some + "2" + some + "]", 2);
            values("[" + some + "1" + some + "," + some + "2" + some + "," + some + "]", 2);
            values("[" + some + "[" + some + "1" + some + "]" + some + "]", 1);
        }
        for (char c = 33; c <= 126; c++) {
            if (",]#".indexOf(c) < 0) {
                Due.wrongAt("a=[''" + c, 5);
                Due.wrongAt("a=['' " + c, 6);
                Due.wrongAt("a=[''\n" + c, 6);
            }
        }
    }

    private static void aCommentInAListEndsWithItsLine() {
        Due.wrongAtMark("a=[#]^");
        Due.wrongAtMark("a=[1#]^");
        Due.wrongAtMark("a=[1,#]^");
        Due.wrongAtMark("a=[1 # ]\n^");
        values("[#]\n]", 0);
        values("[1#]\n]", 1);
        values("[1,#]\n]", 1);
        Due.reads("a=[1]#]\nb=2", "a = [1]\nb = 2\n");
    }

    private static void aListOfTablesIsPlain() {
        values("[{}]", 1);
        values("[{b=1},{b=2}]", 2);
        Due.wrongAtMark("a=[{}]\n[[^a]]");
        Due.wrongAtMark("a=[{}]\n[^a.b]");
    }

    private static void entries(String text, int want) {
        TableText x = Due.of("a=" + text);
        Due.is("kind of " + text, () -> x.down(0), 10);
        Due.is("value of " + text, x::value, want);
    }

    private static void aClosedTableOfNoneOneAndMany() {
        entries("{}", 0);
        entries("{ }", 0);
        entries("{b=1}", 1);
        entries("{ b = 1 }", 1);
        entries("{b=1,c=2}", 2);
        entries("{b.c=1,b.d=2}", 1);
        entries("{b={}}", 1);
        StringBuilder many = new StringBuilder("{z=0");
        for (char c = 'a'; c <= 'y'; c++) {
            many.append(',').append(c).append("=1,").append((char) (c - 32)).append("=2");
        }
        entries(many + "}", 51);
    }

    private static void commasInAClosedTable() {
        Due.wrongAtMark("a={^,}");
        Due.wrongAtMark("a={b=1,^}");
        Due.wrongAtMark("a={b=1, ^}");
        Due.wrongAtMark("a={b=1,^,}");
        Due.wrongAtMark("a={b=1,^,c=2}");
        Due.wrongAtMark("a={b=1 ^c=2}");
        Due.wrongAtMark("a={^,b=1}");
        Due.wrongAtMark("a={}^,");
        Due.wrongAtMark("a={b={}^{}}");
        for (char c = 33; c <= 126; c++) {
            if (",}".indexOf(c) < 0) {
                Due.wrongAt("a={b=''" + c, 7);
                Due.wrongAt("a={b='' " + c, 8);
            }
        }
    }

    private static void blanksAloneAreInAClosedTable() {
        for (String none : new String[] {"\n", "#\n", "# x\n"}) {
            Due.wrongAtMark("a={^" + none + "}");
            Due.wrongAtMark("a={^" + none + "b=1}");
            Due.wrongAtMark("a={b^" + none + "=1}");
            Due.wrongAtMark("a={b=^" + none + "1}");
            Due.wrongAtMark("a={b=''^" + none + "}");
            Due.wrongAtMark("a={b='' ^" + none + ",c=1}");
            Due.wrongAtMark("a={b='',^" + none + "c=1}");
        }
        Due.reads("a={b=[\n#\n1]}", "a = {b = [1]}\n");
        Due.wrongAtMark("a={b=[\n#\n1]^\n}");
        Due.wrongAtMark("a=[{b=1^\n}]");
    }

    private static void tablesByDotsAreClosedWhenItEnds() {
        TableText x = Due.of("a={b.c.d=1,b.e=2,f={g.h=3},i=[{j.k=4}]}");
        int[][] tables = {{0}, {0, 0}, {0, 0, 0}, {0, 1}, {0, 1, 0}, {0, 2, 0}, {0, 2, 0, 0}};
        for (int[] steps : tables) {
            Due.is("a table in it", () -> Due.walk(x, steps), 10);
        }
        TableText y = Due.of("[t]\na=[{b.c=1},{b.c=1}]");
        Due.is("b in the first", () -> Due.walk(y, 0, 0, 0, 0), 10);
        Due.is("b in the second", () -> Due.walk(y, 0, 0, 1, 0), 10);
    }

    private static void tablesByDotsOutsideStayDotted() {
        TableText x = Due.of("a.b={c.d=1}\na.e.f=[{g.h=1}]\na.i=2\n[t]\nu.v={}");
        Due.is("a", () -> Due.walk(x, 0), 9);
        Due.is("a.b", () -> Due.walk(x, 0, 0), 10);
        Due.is("a.b.c", () -> Due.walk(x, 0, 0, 0), 10);
        Due.is("a.e", () -> Due.walk(x, 0, 1), 9);
        Due.is("a.e.f, its table, g", () -> Due.walk(x, 0, 1, 0, 0, 0), 10);
        Due.is("t", () -> Due.walk(x, 1), 7);
        Due.is("t.u", () -> Due.walk(x, 1, 0), 9);
    }

    /** Each mixture of six, by the bits of a number: 1 for a list, 0 for a closed table. */
    private static String opened(int mixture, int deep) {
        StringBuilder all = new StringBuilder();
        for (int i = 0; i < deep; i++) {
            all.append((mixture >> i & 1) == 1 ? "[" : "{a=");
        }
        return all.toString();
    }

    private static String ended(int mixture, int deep) {
        StringBuilder all = new StringBuilder();
        for (int i = deep - 1; i >= 0; i--) {
            all.append((mixture >> i & 1) == 1 ? "]" : "}");
        }
        return all.toString();
    }

    private static void sixDeep() {
        for (int mixture = 0; mixture < 64; mixture++) {
            TableText x = Due.of("v=" + opened(mixture, 6) + "7" + ended(mixture, 6));
            Due.is("seven down", () -> Due.walk(x, 0, 0, 0, 0, 0, 0, 0), 1);
            Due.is("its value", x::value, 7);
        }
        Due.reads("v=[[[[[[]]]]]]", "v = [[[[[[]]]]]]\n");
        Due.reads("v={a={a={a={a={a={}}}}}}", "v = {a = {a = {a = {a = {a = {}}}}}}\n");
    }

    private static void sevenDeep() {
        for (int mixture = 0; mixture < 64; mixture++) {
            String begin = "v=" + opened(mixture, 6);
            Due.wrongAtMark(begin + "^[]" + ended(mixture, 6));
            Due.wrongAtMark(begin + "^{}" + ended(mixture, 6));
            Due.wrongAtMark(begin + "^[");
            Due.wrongAtMark(begin + " ^{");
        }
        Due.wrongAtMark("v=[[[[[[1,^[");
        Due.wrongAtMark("v=[[[[[[\n#\n^[[[[[[[[");
        Due.wrongAtMark("v=[[[[[{a=1,b=^[");
    }

    private static void tablesByDotsAndHeadersAreNotCounted() {
        Due.is("by dots", () -> Due.walk(Due.of("a.b.c.d.e.f.g.h=[[[[[[1]]]]]]"), new int[14]), 1);
        Due.is("by a header", () -> Due.walk(Due.of("[a.b.c.d.e.f.g.h]\ni=[[[[[[1]]]]]]"), new int[15]), 1);
        Due.is("by rows", () -> Due.walk(Due.of("[[a]]\n[[a.b]]\n[[a.b.c]]\nd=[[[[[[1]]]]]]"), new int[13]), 1);
        Due.is("by dots within", () -> Due.walk(Due.of("v={a.a.a={a.a.a={a.a.a={a.a.a={a.a.a={a.a.a=1}}}}}}"), new int[19]), 1);
        Due.wrongAtMark("a.b.c=[[[[[[^[");
        Due.wrongAtMark("[a.b.c]\nd=[[[[[[^[");
        Due.wrongAtMark("[[a]]\nd={a={a={a={a={a={a=^{");
    }

    private static void whatEndedIsNotCounted() {
        Due.reads("v=[[],[],[],[],[],[],[],{},{}]", "v = [[], [], [], [], [], [], [], {}, {}]\n");
        Due.reads("v=[[[[[[],[],{}]]]],[[[[[]]]]]]", "v = [[[[[[], [], {}]]]], [[[[[]]]]]]\n");
        Due.reads("a=[[[[[[]]]]]]\nb=[[[[[[]]]]]]", "a = [[[[[[]]]]]]\nb = [[[[[[]]]]]]\n");
        Due.wrongAtMark("v=[[[[[[],[]]]]],[[[[[^[");
    }
}
