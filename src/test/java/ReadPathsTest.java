/** Promise 3: paths, where they lead, and which tables may be opened again. */
final class ReadPathsTest {
    public static void main(String[] args) {
        parts();
        keysThatAreTooLong();
        entriesByDots();
        headers();
        headersOfRows();
        thePathIsLookedAtBeforeWhatComesBehind();
        longPaths();
        Due.end();
    }

    private static void parts() {
        Due.reads("aZ09_-=1\nzA=2", "aZ09_- = 1\nzA = 2\n");
        Due.reads("1=1\n-=2\n_=3\n2024-01-01=4\ntrue=5", "1 = 1\n- = 2\n_ = 3\n2024-01-01 = 4\ntrue = 5\n");
        Due.reads("\"\"=1\n\"a b\"=2\n\"c\"=3", "\"\" = 1\n\"a b\" = 2\nc = 3\n");
        Due.reads("\"q\\\"\\\\\\n\\t\"=1", "\"q\\\"\\\\\\n\\t\" = 1\n");
        Due.reads("a . \"b.c\" .d=1", "a = {\"b.c\" = {d = 1}}\n");
        Due.wrongAtMark("a.^=1");
        Due.wrongAtMark("a. ^.b=1");
        Due.wrongAtMark("^.a=1");
        Due.wrongAtMark("a.^");
        Due.wrongAtMark("a.b.^\nc=1");
        Due.wrongAtMark("^'a'=1");
        Due.wrongAtMark("a.^'b'=1");
        Due.wrongAtMark("a^\"b\"=1");
        Due.wrongAtMark("\"a\"^b=1");
        Due.wrongAtMark("\"a^");
        Due.wrongAtMark("\"a^\n\"=1");
        Due.wrongAtMark("\"\\^x\"=1");
        Due.wrongAtMark("a^$=1");
    }

    private static void keysThatAreTooLong() {
        String most = Due.times("k", 30);
        Due.reads(most + "=1", most + " = 1\n");
        Due.reads("\"" + most + "\"=1", most + " = 1\n");
        Due.wrongAtMark(most + "^k=1");
        Due.wrongAtMark("\"" + most + "^k\"=1");
        Due.wrongAtMark("[" + most + "." + most + "^kk]");
        Due.wrongAtMark("\"" + most + "^\\n\"=1");
        String escapes = Due.times("\\n", 30);
        Due.reads("\"" + escapes + "\"=1", "\"" + escapes + "\" = 1\n");
    }

    private static void entriesByDots() {
        Due.reads("a.b=1\na.c=2\na.d.e=3\na.d.f=4", "a = {b = 1, c = 2, d = {e = 3, f = 4}}\n");
        Due.reads("a.b=1\nc=2\na.d=3", "a = {b = 1, d = 3}\nc = 2\n");
        Due.reads("[t]\na.b=1\na.c=2\n[u]\na.b=3", "t = {a = {b = 1, c = 2}}\nu = {a = {b = 3}}\n");
        Due.wrongAtMark("a=1\n^a=2");
        Due.wrongAtMark("a=1\n^\"a\"=2");
        Due.wrongAtMark("\"a\"=1\n  ^a=2");
        Due.wrongAtMark("a.b=1\n^a=2");
        Due.wrongAtMark("a.b=1\na.^b=2");
        Due.wrongAtMark("a.b=1\na . ^b . c=2");
        Due.wrongAtMark("a=1\n^a.b=2");
        Due.wrongAtMark("a='s'\n^a.b=2");
        Due.wrongAtMark("a=[]\n^a.b=2");
        Due.wrongAtMark("a={}\n^a.b=2");
        Due.wrongAtMark("a={b.c=1}\n^a.b.d=2");
        Due.wrongAtMark("[t.a]\n[t]\n^a.b=2");
        Due.wrongAtMark("[t.a.b]\n[t]\n^a.c=2");
        Due.wrongAtMark("[t.a.b]\n[t]\n^a=2");
        Due.wrongAtMark("[[t.a]]\n[t]\n^a.b=2");
        Due.wrongAtMark("[[t.a]]\n[t]\n^a=2");
    }

    private static void headers() {
        Due.reads("[a.b.c]\nx=1\n[a]\ny=2\n[a.b]\nz=3", "a = {b = {c = {x = 1}, z = 3}, y = 2}\n");
        Due.reads("[a]\n[a.b]\n[a.b.c]\nx=1\n[b]", "a = {b = {c = {x = 1}}}\nb = {}\n");
        Due.reads("a.b=1\n[a.c]\nd=2\n[a.e.f]", "a = {b = 1, c = {d = 2}, e = {f = {}}}\n");
        Due.reads("[[r]]\nx=1\n[r.s]\ny=2\n[[r]]\n[r.s]\ny=3", "r = [{x = 1, s = {y = 2}}, {s = {y = 3}}]\n");
        Due.wrongAtMark("[a]\n[^a]");
        Due.wrongAtMark("[a.b]\n[a]\n[a.^b]");
        Due.wrongAtMark("[a.b]\n[a]\n[^a]");
        Due.wrongAtMark("a=1\n[^a]");
        Due.wrongAtMark("a=1\n[^a.b]");
        Due.wrongAtMark("a=[{}]\n[^a.b]");
        Due.wrongAtMark("a={}\n[^a]");
        Due.wrongAtMark("a={}\n[^a.b]");
        Due.wrongAtMark("a={b.c=1}\n[^a.b.d]");
        Due.wrongAtMark("a.b={}\n[a.^b.c]");
        Due.wrongAtMark("a.b=1\n[^a]");
        Due.wrongAtMark("a.b.c=1\n[a.^b]");
        Due.wrongAtMark("[[a]]\n[^a]");
        Due.wrongAtMark("[[a]]\n[a.b]\n[a.^b]");
        Due.wrongAtMark("[[a]]\n[[a]]\n[a.b]\n[a . ^\"b\" ]");
    }

    private static void headersOfRows() {
        Due.reads("[[a]]\n[[a]]\n[[a]]\nx=1", "a = [{}, {}, {x = 1}]\n");
        Due.reads("[[a.b]]\n[[a.b]]\n[a]\nx=1", "a = {b = [{}, {}], x = 1}\n");
        Due.reads("[[a]]\n[[a.b]]\n[[a.b]]\n[[a]]\n[[a.b]]", "a = [{b = [{}, {}]}, {b = [{}]}]\n");
        Due.reads("a.b=1\n[[a.c]]", "a = {b = 1, c = [{}]}\n");
        Due.wrongAtMark("a=1\n[[^a]]");
        Due.wrongAtMark("a=[]\n[[^a]]");
        Due.wrongAtMark("a=[{}]\n[[^a]]");
        Due.wrongAtMark("a={}\n[[^a]]");
        Due.wrongAtMark("a={}\n[[^a.b]]");
        Due.wrongAtMark("[a]\n[[^a]]");
        Due.wrongAtMark("[a.b]\n[[^a]]");
        Due.wrongAtMark("a.b=1\n[[^a]]");
        Due.wrongAtMark("a=2\n[[^a.b]]");
        Due.wrongAtMark("[[r]]\nx=1\n^x=2");
        Due.wrongAtMark("[[r]]\nx=1\n[[r.^x]]");
    }

    private static void thePathIsLookedAtBeforeWhatComesBehind() {
        Due.wrongAtMark("a=1\n^a");
        Due.wrongAtMark("a=1\n^a x");
        Due.wrongAtMark("a=1\n^a = x");
        Due.wrongAtMark("a=1\n^a.b  !");
        Due.wrongAtMark("a=1\na .^");
        Due.wrongAtMark("a=1\na.b. ^=2");
        Due.wrongAtMark("[a]\n[^a");
        Due.wrongAtMark("[a]\n[ ^a x]");
        Due.wrongAtMark("[a]\n[[^a]");
        Due.wrongAtMark("[a]\n[a.^]");
        Due.wrongAtMark("a={b=1, ^b!");
    }

    /** Tables by dots lie as deep as the text is long; the document has no limit for them. */
    private static void longPaths() {
        String path = Due.times("a.", 118) + "a";
        TableText x = Due.of(path + "=1");
        int[] steps = new int[119];
        Due.is("the innermost", () -> Due.walk(x, steps), 1);
        Due.is("written", x::write, 119 * 4 + 118 * 2 + 2);
        TableText y = Due.of("x={" + Due.times("a.", 100) + "a=1}");
        Due.is("the first by dots", () -> Due.walk(y, 0, 0), 10);
        Due.is("the hundredth by dots", () -> Due.walk(y, new int[101]), 10);
        Due.is("the number in it", () -> Due.walk(y, new int[102]), 1);
        TableText z = Due.of("[" + Due.times("a.", 118) + "a]");
        Due.is("the last but one", () -> Due.walk(z, new int[118]), 8);
        Due.is("the last", () -> Due.walk(z, new int[119]), 7);
    }
}
