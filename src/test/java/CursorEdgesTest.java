/** The edges of the calls that show what was read. */
final class CursorEdgesTest {
    /** The keys a to j have the kinds 1 to 10; headers come last, so i and j stand first. */
    private static final String ALL_KINDS =
        "i.z=1\ni.y=2\nj={z=1,y=2}\na=1\nb=true\nc='xy'\nd=2024-02-29\ne=[3,4]\n[[f]]\n[[f]]\n[g]\nz=1\n[h.z]\n";

    public static void main(String[] args) {
        aNewDocumentIsEmptyAndTold();
        topAnswersHowManyEntries();
        downGoesToTheFirstAndTheLast();
        downHasNoneInWhatIsEmpty();
        downHasNoneInWhatIsNoListOrTable();
        upAnswersEachKindOfListAndTable();
        upFromTheDeepest();
        upIsRefusedAtTheDocument();
        kindIsOneOfTen();
        valueAtItsEnds();
        letterIsRefusedWhereThereIsNoString();
        keyIsMinus1WhereItHasNone();
        keyIsRefusedWhereThereIsNoEntry();
        theCursorGoesToTheDocumentOfEachRead();
        Due.end();
    }

    private static TableText ofAllKinds() {
        return Due.of(ALL_KINDS);
    }

    private static int placeOf(int kind) {
        return kind <= 8 ? kind + 1 : kind - 9;
    }

    private static void aNewDocumentIsEmptyAndTold() {
        TableText x = new TableText();
        Due.is("kind", x::kind, 7);
        Due.is("value", x::value, 0);
        Due.is("top", x::top, 0);
        for (int i : new int[] {-1, 0, 1, Integer.MIN_VALUE, Integer.MAX_VALUE}) {
            Due.fails("down(" + i + ")", () -> x.down(i), Due.INDEX);
            Due.fails("letter(" + i + ")", () -> x.letter(i), Due.STATE);
            Due.fails("key(" + i + ")", () -> x.key(i), Due.STATE);
        }
        Due.fails("up", x::up, Due.STATE);
        Due.same("everything", Due.everything(x), Due.everything(new TableText()));
    }

    private static void topAnswersHowManyEntries() {
        StringBuilder text = new StringBuilder();
        for (int n = 0; n <= 48; n++) {
            TableText x = Due.of(text.toString());
            Due.is("top of " + n, x::top, n);
            Due.is("value of " + n, x::value, n);
            text.append((char) (n < 26 ? 'a' + n : 'A' + n - 26)).append("=[]\n");
        }
        TableText y = Due.of("a={b={c={d=[[1]]}}}");
        Due.walk(y, 0, 0, 0, 0, 0, 0);
        Due.is("top from the deepest", y::top, 1);
        Due.is("kind there", y::kind, 7);
        Due.is("top from the top", y::top, 1);
    }

    private static void downGoesToTheFirstAndTheLast() {
        String[] texts = {"a=[1,2,3]", "[[a]]\nx=1\n[[a]]\nx=2\n[[a]]\nx=3", "[a]\nx=1\ny=2\nz=3", "[a.x]\n[a.y]\n[a.z]", "a.x=1\na.y=2\na.z=3",
            "a={x=1,y=2,z=3}"};
        int[] kindsWithin = {1, 7, 1, 7, 1, 1};
        for (int t = 0; t < texts.length; t++) {
            TableText x = Due.of(texts[t]);
            for (int i = 0; i < 3; i++) {
                int place = i;
                Due.walk(x, 0);
                Due.is("down(" + i + ") in " + texts[t], () -> x.down(place), kindsWithin[t]);
            }
            for (int i : new int[] {3, 4, -1, -2, 256, 65536, Integer.MIN_VALUE, Integer.MAX_VALUE}) {
                Due.walk(x, 0);
                Due.fails("down(" + i + ") in " + texts[t], () -> x.down(i), Due.INDEX);
                Due.is("value, for the cursor stays", x::value, 3);
            }
        }
        TableText y = Due.of("a=[5,6,7]");
        for (int i = 0; i < 3; i++) {
            Due.walk(y, 0, i);
            Due.is("value " + i, y::value, 5 + i);
        }
    }

    private static void downHasNoneInWhatIsEmpty() {
        String[] texts = {"a=[]", "a={}", "[a]"};
        int[] kinds = {5, 10, 7};
        for (int t = 0; t < texts.length; t++) {
            TableText x = Due.of(texts[t]);
            x.down(0);
            for (int i : new int[] {0, 1, -1}) {
                Due.fails("down(" + i + ") in " + texts[t], () -> x.down(i), Due.INDEX);
            }
            Due.is("kind, for the cursor stays", x::kind, kinds[t]);
        }
        TableText y = Due.of("[[a]]");
        Due.walk(y, 0, 0);
        Due.fails("down(0) in an empty row", () -> y.down(0), Due.INDEX);
    }

    /** Where value() is more than 0 too, for there it is no count of values. */
    private static void downHasNoneInWhatIsNoListOrTable() {
        for (int kind = 1; kind <= 4; kind++) {
            TableText x = ofAllKinds();
            Due.walk(x, placeOf(kind));
            Due.is("kind", x::kind, kind);
            for (int i : new int[] {0, 1, -1}) {
                Due.fails("down(" + i + ") in kind " + kind, () -> x.down(i), Due.INDEX);
            }
            Due.is("kind, for the cursor stays", x::kind, kind);
        }
    }

    private static void upAnswersEachKindOfListAndTable() {
        for (int kind = 5; kind <= 10; kind++) {
            int now = kind;
            TableText x = ofAllKinds();
            Due.is("down to kind " + kind, () -> Due.walk(x, placeOf(now)), kind);
            x.down(0);
            Due.is("up to kind " + kind, x::up, kind);
            Due.is("kind there", x::kind, kind);
            Due.is("up to the document", x::up, 7);
            Due.is("entries there", x::value, 10);
        }
    }

    private static void upFromTheDeepest() {
        TableText x = Due.of(Due.times("a.", 118) + "a=1");
        Due.is("the deepest", () -> Due.walk(x, new int[119]), 1);
        for (int i = 0; i < 118; i++) {
            Due.is("up " + i, x::up, 9);
        }
        Due.is("up to the document", x::up, 7);
        Due.fails("up from the document", x::up, Due.STATE);
    }

    private static void upIsRefusedAtTheDocument() {
        TableText x = ofAllKinds();
        Due.fails("up", x::up, Due.STATE);
        Due.fails("up again", x::up, Due.STATE);
        Due.is("entries, for the cursor stays", x::value, 10);
        x.down(3);
        Due.is("up from an entry", x::up, 7);
        Due.fails("up once more", x::up, Due.STATE);
    }

    private static void kindIsOneOfTen() {
        TableText x = ofAllKinds();
        for (int kind = 1; kind <= 10; kind++) {
            int now = kind;
            x.top();
            Due.is("down", () -> x.down(placeOf(now)), kind);
            Due.is("kind", x::kind, kind);
        }
        Due.is("a row is told", () -> Due.walk(x, 7, 0), 7);
        Due.is("what an implied one holds is told", () -> Due.walk(x, 9, 0), 7);
    }

    private static void valueAtItsEnds() {
        int[] due = {1, 1, 2, 20240229, 2, 2, 1, 1, 2, 2};
        TableText x = ofAllKinds();
        for (int kind = 1; kind <= 10; kind++) {
            Due.walk(x, placeOf(kind));
            Due.is("value of kind " + kind, x::value, due[kind - 1]);
        }
        String[] texts = {"a=0", "a=-999999999", "a=999999999", "a=false", "a=true", "a=''", "a=0000-01-01", "a=9999-12-31", "a=[]", "a={}", "[a]",
            "[[a]]", "[a.b]", "a.b=1"};
        int[] values = {0, -999999999, 999999999, 0, 1, 0, 101, 99991231, 0, 0, 0, 1, 1, 1};
        for (int i = 0; i < texts.length; i++) {
            TableText y = Due.of(texts[i]);
            y.down(0);
            Due.is("value of " + texts[i], y::value, values[i]);
        }
    }

    private static void letterIsRefusedWhereThereIsNoString() {
        for (int kind = 1; kind <= 10; kind++) {
            TableText x = ofAllKinds();
            Due.walk(x, placeOf(kind));
            for (int i : new int[] {0, 1, -1, 2, Integer.MIN_VALUE, Integer.MAX_VALUE}) {
                boolean has = kind == 3 && (i == 0 || i == 1);
                String want = has ? "" + (int) "xy".charAt(i) : kind == 3 ? Due.INDEX : Due.STATE;
                Due.fails("letter(" + i + ") of kind " + kind, () -> x.letter(i), want);
            }
            Due.is("kind, for the cursor stays", x::kind, kind);
        }
    }

    private static void keyIsMinus1WhereItHasNone() {
        String names = "abcdefghij";
        for (int kind = 1; kind <= 10; kind++) {
            TableText x = ofAllKinds();
            Due.walk(x, placeOf(kind));
            Due.is("key(0) of kind " + kind, () -> x.key(0), names.charAt(kind - 1));
            for (int i : new int[] {1, 2, -1, 30, 256, 65536, Integer.MIN_VALUE, Integer.MAX_VALUE}) {
                Due.is("key(" + i + ") of kind " + kind, () -> x.key(i), -1);
            }
        }
        TableText y = Due.of("\"\"=1");
        y.down(0);
        for (int i : new int[] {0, 1, -1}) {
            Due.is("key(" + i + ") of a key of none", () -> y.key(i), -1);
        }
        TableText z = Due.of("\"" + Due.times("k", 29) + "\\n\"=1");
        z.down(0);
        Due.is("key(29) of 30", () -> z.key(29), 10);
        Due.is("key(30) of 30", () -> z.key(30), -1);
    }

    private static void keyIsRefusedWhereThereIsNoEntry() {
        TableText x = Due.of("a=[1,'s',[2],{b=3}]\n[[c]]\nd=4");
        int[][] places = {{}, {0, 0}, {0, 1}, {0, 2}, {0, 2, 0}, {0, 3}, {1, 0}};
        for (int[] steps : places) {
            for (int i : new int[] {0, -1, 1, Integer.MIN_VALUE, Integer.MAX_VALUE}) {
                Due.walk(x, steps);
                Due.fails("key(" + i + ") of no entry", () -> x.key(i), Due.STATE);
            }
        }
        Due.walk(x, 0, 3, 0);
        Due.is("key of an entry in a list's table", () -> x.key(0), 'b');
        Due.walk(x, 1, 0, 0);
        Due.is("key of an entry in a row", () -> x.key(0), 'd');
    }

    private static void theCursorGoesToTheDocumentOfEachRead() {
        TableText x = ofAllKinds();
        Due.walk(x, 6, 1);
        Due.type(x, "q=[8,9]\nr=1");
        Due.is("read", x::read, -1);
        Due.is("kind", x::kind, 7);
        Due.is("value", x::value, 2);
        Due.fails("up", x::up, Due.STATE);
        Due.is("down", () -> x.down(0), 5);
        Due.is("key", () -> x.key(0), 'q');
        Due.is("read of nothing", x::read, -1);
        Due.is("value of nothing", x::value, 0);
        Due.fails("down in nothing", () -> x.down(0), Due.INDEX);
    }
}
