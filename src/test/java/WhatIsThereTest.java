/** The rules on what is there: each kind of value against each way to come to it, in table t under the key k. */
final class WhatIsThereTest {
    private static final int NONE = 0;
    /** How each kind comes to be at t.k; behind each the latest header is [t]. */
    private static final String[] BEGINS = {"[t]\n", "[t]\nk=1\n", "[t]\nk=true\n", "[t]\nk=''\n", "[t]\nk=2024-02-29\n",
        "[t]\nk=[{}]\n", "[[t.k]]\n[t]\n", "[t.k]\n[t]\n", "[t.k.z]\n[t]\n", "[t]\nk.z=1\n", "[t]\nk={z=1}\n"};

    public static void main(String[] args) {
        theKindsAreThere();
        entryPartButTheLast();
        entryLastPart();
        headerPartButTheLast();
        headerLastPart();
        rowsPartButTheLast();
        rowsLastPart();
        lastRowIsLedTo();
        tablesSettledByTheirKind();
        withinAClosedTable();
        thePlaceIsWhereThePartBegins();
        entriesGoIntoTheLatestHeadersTable();
        Due.end();
    }

    private static void theKindsAreThere() {
        for (int kind = 1; kind <= 10; kind++) {
            TableText x = Due.of(BEGINS[kind]);
            Due.is("what is there", () -> Due.walk(x, 0, 0), kind);
        }
    }

    /** Where the text goes on by this line, the kind at t.k is the one named for it, and where that is -1 it is wrong at the k. */
    private static void check(String line, int... kindsThen) {
        for (int kind = NONE; kind <= 10; kind++) {
            String text = BEGINS[kind] + line;
            if (kindsThen[kind] == -1) {
                Due.wrongAt(text, BEGINS[kind].length() + line.indexOf('k'));
                Due.wrongAt(text + "\n!", BEGINS[kind].length() + line.indexOf('k'));
            } else {
                TableText x = Due.of(text);
                Due.is("kind at t.k of " + text, () -> Due.walk(x, 0, 0), kindsThen[kind]);
            }
        }
    }

    private static void entryPartButTheLast() {
        check("k.x=1", 9, -1, -1, -1, -1, -1, -1, -1, -1, 9, -1);
        check("k.x.y=1", 9, -1, -1, -1, -1, -1, -1, -1, -1, 9, -1);
        check(" k . x = {}", 9, -1, -1, -1, -1, -1, -1, -1, -1, 9, -1);
    }

    private static void entryLastPart() {
        check("k=5", 1, -1, -1, -1, -1, -1, -1, -1, -1, -1, -1);
        check("k=[]", 5, -1, -1, -1, -1, -1, -1, -1, -1, -1, -1);
        check("k={}", 10, -1, -1, -1, -1, -1, -1, -1, -1, -1, -1);
    }

    private static void headerPartButTheLast() {
        check("[t.k.x]", 8, -1, -1, -1, -1, -1, 6, 7, 8, 9, -1);
        check("[t.k.x.y]", 8, -1, -1, -1, -1, -1, 6, 7, 8, 9, -1);
    }

    private static void headerLastPart() {
        check("[t.k]", 7, -1, -1, -1, -1, -1, -1, -1, 7, -1, -1);
        check("[ t . k ]", 7, -1, -1, -1, -1, -1, -1, -1, 7, -1, -1);
    }

    private static void rowsPartButTheLast() {
        check("[[t.k.x]]", 8, -1, -1, -1, -1, -1, 6, 7, 8, 9, -1);
        check("[[t.k.x.y]]", 8, -1, -1, -1, -1, -1, 6, 7, 8, 9, -1);
    }

    private static void rowsLastPart() {
        check("[[t.k]]", 6, -1, -1, -1, -1, -1, 6, -1, -1, -1, -1);
        TableText one = Due.of("[[k]]");
        Due.walk(one, 0);
        Due.is("a new list of rows has one", one::value, 1);
        TableText two = Due.of("[[k]]\n[[k]]");
        Due.walk(two, 0);
        Due.is("to which one comes", two::value, 2);
        Due.is("the first row is told", () -> Due.walk(two, 0, 0), 7);
        Due.is("the second row is told", () -> Due.walk(two, 0, 1), 7);
    }

    private static void lastRowIsLedTo() {
        Due.reads("[[k]]\n[[k]]\n[k.x]\ny=1", "k = [{}, {x = {y = 1}}]\n");
        Due.reads("[[k]]\n[k.x]\n[[k]]\n[k.x]", "k = [{x = {}}, {x = {}}]\n");
        Due.reads("[[k]]\n[[k]]\n[[k.x]]\n[[k.x]]\ny=1", "k = [{}, {x = [{}, {y = 1}]}]\n");
        Due.reads("[[k]]\n[[k.x]]\n[[k.x]]\n[k.x.y]\nz=1", "k = [{x = [{}, {y = {z = 1}}]}]\n");
        Due.wrongAtMark("[[k]]\n[k.x]\n[k.^x]");
        Due.wrongAtMark("[[k]]\nx=1\n[k.^x]");
        Due.wrongAtMark("[[k]]\nx=1\n[k.^x.y]");
        Due.wrongAtMark("[[k]]\n[[k.x]]\n[k.^x]");
        Due.wrongAtMark("[[k]]\n[k.x]\n[[k.^x]]");
    }

    private static void tablesSettledByTheirKind() {
        Due.reads("[k.x]\n[k]\n[k.y]\n[k.z.z]\n[k.z]", "k = {x = {}, y = {}, z = {z = {}}}\n");
        Due.wrongAtMark("[k]\n[^k]");
        Due.wrongAtMark("[k.x]\n[k]\n[^k]");
        Due.wrongAtMark("[k.x]\n[k]\n[[^k]]");
        Due.wrongAtMark("[k.x]\n[k.^x]");
        Due.wrongAtMark("[k]\nx.y=1\n[k.^x]");
        Due.wrongAtMark("[k]\nx.y=1\n[k.x.^y]");
        Due.wrongAtMark("[k]\nx.y=1\n[[k.^x]]");
        Due.reads("[k]\nx.y=1\n[k.x.z]", "k = {x = {y = 1, z = {}}}\n");
        Due.wrongAtMark("[k]\nx.y=1\n[k.x.z]\n[k.^x]");
        Due.wrongAtMark("a.b.c={d.e=1}\n[a.b.^c.d.f]");
        Due.wrongAtMark("a.b.c={d.e=1}\na.b.^c.d.f=1");
        Due.wrongAtMark("a=[{b=1}]\n[^a.c]");
        Due.wrongAtMark("a=[{b=1}]\n[[^a.c]]");
    }

    private static void withinAClosedTable() {
        Due.reads("t={k.x=1,k.y=2,k.z.z=3}", "t = {k = {x = 1, y = 2, z = {z = 3}}}\n");
        for (String value : new String[] {"1", "true", "''", "2024-02-29", "[]", "[{}]", "{}", "{x=1}", "{x.y=1}"}) {
            Due.wrongAtMark("t={k=" + value + ",^k=1}");
            Due.wrongAtMark("t={k=" + value + ",^k.x=1}");
            Due.wrongAtMark("t={k=" + value + " , ^k . x !");
        }
        Due.wrongAtMark("t={k.x=1,^k=1}");
        Due.wrongAtMark("t={k.x=1,k.^x=1}");
        Due.wrongAtMark("t={k.x=1,k.^x.y=1}");
        Due.wrongAtMark("t={k={x.y=1},^k.x.z=1}");
        Due.reads("k=1\nt={k={k=[{k=1}]}}", "k = 1\nt = {k = {k = [{k = 1}]}}\n");
    }

    private static void thePlaceIsWhereThePartBegins() {
        Due.wrongAtMark("abc=1\n   ^abc = 2");
        Due.wrongAtMark("abc=1\n   ^\"abc\" = 2");
        Due.wrongAtMark("abc=1\n^abc . def = 2");
        Due.wrongAtMark("abc.def=1\nabc  .  ^def = 2");
        Due.wrongAtMark("abc.def=1\nabc  .  ^\"def\" . ghi = 2");
        Due.wrongAtMark("[abc]\n[   ^abc   ]");
        Due.wrongAtMark("[abc]\n[   ^\"abc\"   ]");
        Due.wrongAtMark("[abc.def]\n[ abc . ^def ]");
        Due.wrongAtMark("[abc]\n[[  ^abc ]]");
        Due.wrongAtMark("abc={def=1,   ^def = 2}");
    }

    private static void entriesGoIntoTheLatestHeadersTable() {
        Due.reads("a=1\n[t]\na=2\n[u.v]\na=3\n[u]\na=4\n[[r]]\na=5\n[[r]]\na=6",
            "a = 1\nt = {a = 2}\nu = {v = {a = 3}, a = 4}\nr = [{a = 5}, {a = 6}]\n");
        Due.reads("[t]\n[u]\na=1", "t = {}\nu = {a = 1}\n");
        Due.reads("[t]\nu.v=1\nu.w=2\n[t.x]\nu.v=3", "t = {u = {v = 1, w = 2}, x = {u = {v = 3}}}\n");
        Due.reads("[t]\nt.t=1\n[t.u]\nt=2", "t = {t = {t = 1}, u = {t = 2}}\n");
    }
}
