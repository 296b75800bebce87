/** Promises 6 to 12. */
final class CursorTest {
    private static final String ALL = "n=-5\nb=true\ns=\"a\\n\"\nd=2024-02-29\nl=[1,'x']\ny.z=0\nc={}\n[i.t]\nk=1\n[[r]]\n[[r]]\nq=0";

    public static void main(String[] args) {
        top();
        down();
        up();
        kindsAndValues();
        letters();
        keys();
        Due.end();
    }

    private static void top() {
        TableText x = Due.of(ALL);
        Due.is("top", x::top, 9);
        Due.walk(x, 8, 1, 0);
        Due.is("top from within", x::top, 9);
        Due.is("kind at the top", x::kind, 7);
        Due.fails("up at the top", x::up, Due.STATE);
    }

    private static void down() {
        TableText x = Due.of(ALL);
        int[] kinds = {1, 2, 3, 4, 5, 9, 10, 8, 6};
        for (int i = 0; i < kinds.length; i++) {
            int step = i;
            x.top();
            Due.is("down(" + i + ")", () -> x.down(step), kinds[i]);
            Due.is("kind behind down(" + i + ")", x::kind, kinds[i]);
        }
        int[] none = {-1, 9, Integer.MIN_VALUE, Integer.MAX_VALUE};
        x.top();
        for (int i : none) {
            Due.fails("down(" + i + ")", () -> x.down(i), Due.INDEX);
        }
        Due.is("value, for the cursor stayed", x::value, 9);
        for (int i : new int[] {0, 1, 2, 3, 6}) {
            Due.walk(x, i);
            Due.fails("down in value " + i, () -> x.down(0), Due.INDEX);
            Due.is("kind, for the cursor stayed", x::kind, kinds[i]);
        }
        Due.walk(x, 4);
        Due.fails("down(2) in a list of two", () -> x.down(2), Due.INDEX);
        Due.is("down(1) in a list", () -> x.down(1), 3);
        Due.walk(x, 8);
        Due.is("down(1) in a list of rows", () -> x.down(1), 7);
        Due.is("down(0) in a row", () -> x.down(0), 1);
        Due.walk(x, 7);
        Due.is("down(0) in an implied table", () -> x.down(0), 7);
    }

    private static void up() {
        TableText x = Due.of(ALL);
        Due.walk(x, 8, 1, 0);
        Due.is("up to the row", x::up, 7);
        Due.is("entries of the row", x::value, 1);
        Due.is("up to the list of rows", x::up, 6);
        Due.is("rows", x::value, 2);
        Due.is("up to the document", x::up, 7);
        Due.is("entries of the document", x::value, 9);
        Due.fails("up from the document", x::up, Due.STATE);
        Due.is("value, for the cursor stayed", x::value, 9);
        Due.walk(x, 4, 1);
        Due.is("up to the list", x::up, 5);
        Due.walk(x, 5, 0);
        Due.is("up to the dotted table", x::up, 9);
        Due.walk(x, 7, 0);
        Due.is("up to the implied table", x::up, 8);
    }

    private static void kindsAndValues() {
        TableText x = Due.of(ALL);
        int[] values = {-5, 1, 2, 20240229, 2, 1, 0, 1, 2};
        for (int i = 0; i < values.length; i++) {
            Due.walk(x, i);
            Due.is("value " + i, x::value, values[i]);
        }
        TableText y = Due.of("[a.b]\n[a]\nc=1\n[d]\ne.f=false\n[d.e.g]\nh=''");
        Due.is("an implied table that was told then", () -> Due.walk(y, 0), 7);
        Due.is("its entries", y::value, 2);
        Due.is("a new told table without entries", () -> Due.walk(y, 0, 0), 7);
        Due.is("its entries", y::value, 0);
        Due.is("a told table", () -> Due.walk(y, 1), 7);
        Due.is("a dotted one that a header went through", () -> Due.walk(y, 1, 0), 9);
        Due.is("its entries", y::value, 2);
        Due.is("a truth", () -> Due.walk(y, 1, 0, 0), 2);
        Due.is("false", y::value, 0);
        Due.is("a told one in it", () -> Due.walk(y, 1, 0, 1), 7);
        Due.is("a string", () -> Due.walk(y, 1, 0, 1, 0), 3);
        Due.is("its characters", y::value, 0);
        TableText z = Due.of("[[r]]\nl=[]\nt={}");
        Due.is("a list of one row", () -> Due.walk(z, 0), 6);
        Due.is("its rows", z::value, 1);
        Due.is("a list of nothing", () -> Due.walk(z, 0, 0, 0), 5);
        Due.is("its values", z::value, 0);
        Due.is("a closed table of nothing", () -> Due.walk(z, 0, 0, 1), 10);
        Due.is("its entries", z::value, 0);
    }

    private static void letters() {
        TableText x = Due.of(ALL + "\ne=''");
        Due.walk(x, 2);
        Due.is("letter(0)", () -> x.letter(0), 'a');
        Due.is("letter(1)", () -> x.letter(1), 10);
        Due.fails("letter(2)", () -> x.letter(2), Due.INDEX);
        Due.fails("letter(-1)", () -> x.letter(-1), Due.INDEX);
        Due.fails("letter(most)", () -> x.letter(Integer.MAX_VALUE), Due.INDEX);
        Due.walk(x, 4, 1);
        Due.is("letter(0) of a string in a list", () -> x.letter(0), 'x');
        Due.walk(x, 8, 1, 1);
        Due.fails("letter(0) of an empty string", () -> x.letter(0), Due.INDEX);
        for (int i : new int[] {0, 1, 3, 4, 5, 6, 7, 8}) {
            Due.walk(x, i);
            Due.fails("letter(0) of value " + i, () -> x.letter(0), Due.STATE);
            Due.fails("letter(-1) of value " + i, () -> x.letter(-1), Due.STATE);
        }
        x.top();
        Due.fails("letter(0) of the document", () -> x.letter(0), Due.STATE);
    }

    private static void keys() {
        TableText x = Due.of("long-key=1\n\"\"=2\n\"a\\t\\\"\"=3\nd.e={f=[4]}\n[[r.s]]\nt=5");
        Due.walk(x, 0);
        Due.same("key", Due.key(x), "long-key");
        Due.is("key(8)", () -> x.key(8), -1);
        Due.is("key(-1)", () -> x.key(-1), -1);
        Due.is("key(least)", () -> x.key(Integer.MIN_VALUE), -1);
        Due.is("key(most)", () -> x.key(Integer.MAX_VALUE), -1);
        Due.walk(x, 1);
        Due.is("key(0) of an empty key", () -> x.key(0), -1);
        Due.walk(x, 2);
        Due.same("key with escapes", Due.key(x), "a\t\"");
        Due.walk(x, 3);
        Due.same("key of a dotted table", Due.key(x), "d");
        Due.walk(x, 3, 0);
        Due.same("key of a closed table", Due.key(x), "e");
        Due.walk(x, 3, 0, 0);
        Due.same("key of a list", Due.key(x), "f");
        Due.walk(x, 3, 0, 0, 0);
        Due.fails("key in a list", () -> x.key(0), Due.STATE);
        Due.walk(x, 4);
        Due.same("key of an implied table", Due.key(x), "r");
        Due.walk(x, 4, 0);
        Due.same("key of a list of rows", Due.key(x), "s");
        Due.walk(x, 4, 0, 0);
        Due.fails("key of a row", () -> x.key(0), Due.STATE);
        Due.walk(x, 4, 0, 0, 0);
        Due.same("key in a row", Due.key(x), "t");
        x.top();
        Due.fails("key of the document", () -> x.key(0), Due.STATE);
        Due.fails("key(-1) of the document", () -> x.key(-1), Due.STATE);
    }
}
