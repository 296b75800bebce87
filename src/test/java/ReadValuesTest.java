/** Promise 3: values of every kind. */
final class ReadValuesTest {
    public static void main(String[] args) {
        numbers();
        numbersThatAreWrong();
        dates();
        datesThatAreWrong();
        truths();
        strings();
        lists();
        closedTables();
        depths();
        Due.end();
    }

    private static void number(String value, int want) {
        TableText x = Due.of("n=" + value);
        Due.is("kind of " + value, () -> x.down(0), 1);
        Due.is("value of " + value, x::value, want);
    }

    private static void numbers() {
        number("0", 0);
        number("+0", 0);
        number("-0", 0);
        number("7", 7);
        number("+7", 7);
        number("-7", -7);
        number("10", 10);
        number("999999999", 999999999);
        number("-999999999", -999999999);
        number("1_0", 10);
        number("1_2_3_4_5_6_7_8_9", 123456789);
        number("2024", 2024);
        number("0x0", 0);
        number("0xff_0", 4080);
        number("0x0000001", 1);
        number("0xfffffff", 0xfffffff);
        number("0xa_b_c_d_e_f_0", 0xabcdef0);
        number("1#", 1);
        number(Due.times(" ", 234) + "2024", 2024);
    }

    private static void numbersThatAreWrong() {
        Due.wrongAtMark("n=0^5");
        Due.wrongAtMark("n=0^0");
        Due.wrongAtMark("n=0^_1");
        Due.wrongAtMark("n=-0^1");
        Due.wrongAtMark("n=0^123");
        Due.wrongAtMark("n=+^");
        Due.wrongAtMark("n=-^x");
        Due.wrongAtMark("n=+^-1");
        Due.wrongAtMark("n=+^_1");
        Due.wrongAtMark("n=+^ 1");
        Due.wrongAtMark("n=^_1");
        Due.wrongAtMark("n=1_^");
        Due.wrongAtMark("n=1_^ ");
        Due.wrongAtMark("n=1_^_0");
        Due.wrongAtMark("n=1_^a");
        Due.wrongAtMark("n=1^a");
        Due.wrongAtMark("n=1^.5");
        Due.wrongAtMark("n=123456789^0");
        Due.wrongAtMark("n=-123456789^0");
        Due.wrongAtMark("n=1_234_567_89^01");
        Due.wrongAtMark("n=123456789_^0");
        Due.wrongAtMark("n=0x1234567_^8");
        Due.wrongAtMark("n=0x^");
        Due.wrongAtMark("n=0x^_1");
        Due.wrongAtMark("n=0x^g");
        Due.wrongAtMark("n=0x^F");
        Due.wrongAtMark("n=0^X1");
        Due.wrongAtMark("n=0xa^A");
        Due.wrongAtMark("n=0xa_^");
        Due.wrongAtMark("n=0x1234567^8");
        Due.wrongAtMark("n=+0^x1");
        Due.wrongAtMark("n=-0^x1");
        Due.wrongAtMark("n=1 ^2");
    }

    private static void date(String value, int want) {
        TableText x = Due.of("d=" + value);
        Due.is("kind of " + value, () -> x.down(0), 4);
        Due.is("value of " + value, x::value, want);
        Due.same("written", Due.written(x), "d = " + value + "\n");
    }

    private static void dates() {
        date("2024-02-29", 20240229);
        date("2000-02-29", 20000229);
        date("0000-02-29", 229);
        date("0005-01-01", 50101);
        date("9999-12-31", 99991231);
        int[] days = {31, 28, 31, 30, 31, 30, 31, 31, 30, 31, 30, 31};
        for (int month = 1; month <= 12; month++) {
            String begin = "2023-" + (month < 10 ? "0" : "") + month + "-";
            date(begin + days[month - 1], 20230000 + 100 * month + days[month - 1]);
            Due.wrongAtMark("d=" + begin + "^" + (days[month - 1] + 1));
        }
    }

    private static void datesThatAreWrong() {
        Due.wrongAtMark("d=2023-02-^29");
        Due.wrongAtMark("d=1900-02-^29");
        Due.wrongAtMark("d=2024-02-^30");
        Due.wrongAtMark("d=2023-01-^00");
        Due.wrongAtMark("d=2023-01-^99");
        Due.wrongAtMark("d=2023-^00-01");
        Due.wrongAtMark("d=2023-^13-01");
        Due.wrongAtMark("d=2023-^13");
        Due.wrongAtMark("d=2023-^99x");
        Due.wrongAtMark("d=2023-^");
        Due.wrongAtMark("d=2023-^x1-01");
        Due.wrongAtMark("d=2023-1^x-01");
        Due.wrongAtMark("d=2023-1^-01");
        Due.wrongAtMark("d=2023-1^");
        Due.wrongAtMark("d=2023-01^");
        Due.wrongAtMark("d=2023-01^/01");
        Due.wrongAtMark("d=2023-01^1-01");
        Due.wrongAtMark("d=2023-01-^");
        Due.wrongAtMark("d=2023-01-^ 1");
        Due.wrongAtMark("d=2023-01-1^");
        Due.wrongAtMark("d=2023-01-1^_1");
        Due.wrongAtMark("d=2023-01-01^1");
        Due.wrongAtMark("d=2023-01-01^-");
        Due.wrongAtMark("d=+2023^-01-01");
        Due.wrongAtMark("d=-2023^-01-01");
        Due.wrongAtMark("d=202^-01-01");
        Due.wrongAtMark("d=+202^-01-01");
        Due.wrongAtMark("d=202_^-01-01");
        Due.wrongAtMark("d=202^x-01-01");
        Due.wrongAtMark("d=20234^-01-01");
        Due.wrongAtMark("d=2_023^-01-01");
        Due.wrongAtMark("d=0^023");
    }

    private static void truths() {
        TableText x = Due.of("a=true\nb=false");
        Due.is("kind of true", () -> Due.walk(x, 0), 2);
        Due.is("true", x::value, 1);
        Due.is("kind of false", () -> Due.walk(x, 1), 2);
        Due.is("false", x::value, 0);
        Due.wrongAtMark("a=t^");
        Due.wrongAtMark("a=tru^");
        Due.wrongAtMark("a=tr^a");
        Due.wrongAtMark("a=true^e");
        Due.wrongAtMark("a=f^\n");
        Due.wrongAtMark("a=fals^");
        Due.wrongAtMark("a=f^rue");
        Due.wrongAtMark("a=false^s");
        Due.wrongAtMark("a=^True");
    }

    private static void strings() {
        String most = Due.times("s", 30);
        Due.reads("a=\"\"\nb=''", "a = \"\"\nb = \"\"\n");
        Due.reads("a=\"it's # [no] comment\"", "a = \"it's # [no] comment\"\n");
        Due.reads("a='\"\\n\\'", "a = \"\\\"\\\\n\\\\\"\n");
        Due.reads("a=\"\\\"\\\\\\n\\t\"", "a = \"\\\"\\\\\\n\\t\"\n");
        Due.reads("a=\"" + most + "\"\nb='" + most + "'", "a = \"" + most + "\"\nb = \"" + most + "\"\n");
        Due.wrongAtMark("a=\"" + most + "^s\"");
        Due.wrongAtMark("a='" + most + "^s'");
        Due.wrongAtMark("a=\"" + most + "^\\\"");
        Due.wrongAtMark("a=\"" + most + "^");
        Due.wrongAtMark("a=\"" + most + "^\n\"");
        Due.wrongAtMark("a=\"x^");
        Due.wrongAtMark("a='x^");
        Due.wrongAtMark("a=\"x^\n\"");
        Due.wrongAtMark("a='x^\n'");
        Due.wrongAtMark("a=\"\\^q\"");
        Due.wrongAtMark("a=\"\\^'\"");
        Due.wrongAtMark("a=\"\\^");
        Due.wrongAtMark("a=\"\\^\n\"");
        Due.wrongAtMark("a=\"x\"^\"");
        Due.wrongAtMark("a='x'^'");
        Due.wrongAtMark("a='x\\'^'");
    }

    private static void lists() {
        Due.reads("a=[]\nb=[ ]\nc=[\n]\nd=[#]\n]", "a = []\nb = []\nc = []\nd = []\n");
        Due.reads("a=[1,2]\nb=[1 , 2 , ]\nc=[1,]", "a = [1, 2]\nb = [1, 2]\nc = [1]\n");
        Due.reads("a=[ # x\n\n1#,\n , # ]\n 2 \n,\n]#e\nb=1", "a = [1, 2]\nb = 1\n");
        Due.reads("a=[1,true,'s',2024-01-31,[[]],{b=1}]", "a = [1, true, \"s\", 2024-01-31, [[]], {b = 1}]\n");
        Due.reads("a=[##\n]", "a = []\n");
        Due.wrongAtMark("a=[^");
        Due.wrongAtMark("a=[^,]");
        Due.wrongAtMark("a=[1,^,]");
        Due.wrongAtMark("a=[1 ^2]");
        Due.wrongAtMark("a=[1^");
        Due.wrongAtMark("a=[1,^");
        Due.wrongAtMark("a=[1\n^b=2");
        Due.wrongAtMark("a=[^b]");
        Due.wrongAtMark("a=[1^}");
        Due.wrongAtMark("a=[ # ]^");
        Due.wrongAtMark("a=[]^]");
        Due.wrongAtMark("a=[1^.]");
    }

    private static void closedTables() {
        Due.reads("a={}\nb={ }", "a = {}\nb = {}\n");
        Due.reads("a={ b = 1 , c.d = 2 , c . e = 3 }", "a = {b = 1, c = {d = 2, e = 3}}\n");
        Due.reads("a={b=[\n1, # x\n2\n]}", "a = {b = [1, 2]}\n");
        Due.reads("a={a={a=1}}\nb=[{c=1},{c=2}]", "a = {a = {a = 1}}\nb = [{c = 1}, {c = 2}]\n");
        Due.wrongAtMark("a={^");
        Due.wrongAtMark("a={^,}");
        Due.wrongAtMark("a={^\n}");
        Due.wrongAtMark("a={b^}");
        Due.wrongAtMark("a={b=^}");
        Due.wrongAtMark("a={b=1,^}");
        Due.wrongAtMark("a={b=1 ^c=2}");
        Due.wrongAtMark("a={b=1^\n}");
        Due.wrongAtMark("a={b=1 ^# x\n}");
        Due.wrongAtMark("a={b=1,^\nc=2}");
        Due.wrongAtMark("a={b=1^]");
        Due.wrongAtMark("a={b=1^");
        Due.wrongAtMark("a={b=1,^");
        Due.wrongAtMark("a={^[b]=1}");
        Due.wrongAtMark("a={b=1,^b=2}");
        Due.wrongAtMark("a={b.c=1,^b=2}");
        Due.wrongAtMark("a={b.c=1,b.^c.d=2}");
        Due.wrongAtMark("a={b={c=1},^b.d=2}");
        Due.wrongAtMark("a={b.c={d.e=1},b.^c.d.f=2}");
        tablesByDotsAreClosedAtTheEnd();
    }

    private static void tablesByDotsAreClosedAtTheEnd() {
        TableText x = Due.of("o.p=0\na={b.c.d={e.f=1},b.g=[{h.i=2}]}\no.q=3");
        Due.is("o stays dotted", () -> Due.walk(x, 0), 9);
        Due.is("a", () -> Due.walk(x, 1), 10);
        Due.is("b", () -> Due.walk(x, 1, 0), 10);
        Due.is("c", () -> Due.walk(x, 1, 0, 0), 10);
        Due.is("d", () -> Due.walk(x, 1, 0, 0, 0), 10);
        Due.is("e", () -> Due.walk(x, 1, 0, 0, 0, 0), 10);
        Due.is("g", () -> Due.walk(x, 1, 0, 1), 5);
        Due.is("in g", () -> Due.walk(x, 1, 0, 1, 0), 10);
        Due.is("h", () -> Due.walk(x, 1, 0, 1, 0, 0), 10);
    }

    private static void depths() {
        Due.reads("a=[[[[[[1]]]]]]", "a = [[[[[[1]]]]]]\n");
        Due.reads("a={b={c={d={e={f={}}}}}}", "a = {b = {c = {d = {e = {f = {}}}}}}\n");
        Due.reads("[t.u.v]\nw.x.y=[{z.z.z=[{a=[{}]}]}]", "t = {u = {v = {w = {x = {y = [{z = {z = {z = [{a = [{}]}]}}}]}}}}}\n");
        Due.reads("a=[[[[[[],[]]]]],[]]", "a = [[[[[[], []]]]], []]\n");
        Due.wrongAtMark("a=[[[[[[^[]]]]]]]");
        Due.wrongAtMark("a=[[[[[[1,^{}]]]]]]");
        Due.wrongAtMark("a={b={c={d={e={f={g=^{}}}}}}}");
        Due.wrongAtMark("a={b={c={d={e={f={g= ^[");
        Due.wrongAtMark("a=[{b=[{c=[{d=^[");
    }
}
