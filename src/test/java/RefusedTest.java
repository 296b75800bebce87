import java.util.function.Supplier;
import java.util.function.ToIntFunction;

/** A call that is refused, and one that only looks, leaves everything; every other changes what it says alone. */
final class RefusedTest {
    private static final String TEXT_OF_237 = "g=7#" + Due.times("x", 233);

    public static void main(String[] args) {
        typeIsRefused();
        writtenIsRefused();
        downIsRefused();
        upIsRefused();
        letterIsRefused();
        keyIsRefused();
        wrongTextsAreRefused();
        looksChangeNothing();
        aCallChangesWhatItSaysAlone();
        objectsHaveNothingInCommon();
        Due.end();
    }

    /** What was written, the document, the cursor and the text all differ, so that none can be lost unseen. */
    private static TableText used(String text, int... steps) {
        TableText x = Due.of("old=1");
        x.write();
        Due.type(x, "n=-5\nl=[1,{b='str'}]\nc.d=''\nm=[]");
        Due.is("read", x::read, -1);
        Due.walk(x, steps);
        Due.type(x, text);
        return x;
    }

    private static void changesNothing(String what, Supplier<TableText> made, ToIntFunction<TableText> call, String want) {
        TableText x = made.get();
        Due.fails(what, () -> call.applyAsInt(x), want);
        Due.same("everything behind " + what, Due.everything(x), Due.everything(made.get()));
    }

    private static void typeIsRefused() {
        Supplier<TableText> made = () -> used("e=5", 1, 1, 0);
        for (int n : new int[] {0, 9, -1, -8, 10, 16, 256, 257, 264, 65537, Integer.MIN_VALUE, Integer.MIN_VALUE + 1, Integer.MAX_VALUE}) {
            changesNothing("type(.., " + n + ")", made, x -> x.type(0x3636363636363636L, n), Due.ARGUMENT);
        }
        for (int place = 0; place < 8; place++) {
            long none = 0x3636363636363636L & ~(0xffL << 8 * place) | 0x7fL << 8 * place;
            changesNothing("type, none at byte " + place, made, x -> x.type(none, 8), Due.ARGUMENT);
        }
        Supplier<TableText> nearlyFull = () -> used(TEXT_OF_237, 1, 1, 0);
        for (int n = 4; n <= 8; n++) {
            int count = n;
            changesNothing("type " + n + " behind 237", nearlyFull, x -> x.type(0x3636363636363636L, count), Due.STATE);
        }
    }

    private static void writtenIsRefused() {
        for (int i : new int[] {-1, 8, 9, 599, 600, 256, 65536, Integer.MIN_VALUE, Integer.MAX_VALUE}) {
            changesNothing("written(" + i + ")", () -> used("e=5", 1), x -> x.written(i), Due.INDEX);
        }
    }

    private static void downIsRefused() {
        int[][] places = {{}, {0}, {1}, {1, 0}, {1, 1}, {1, 1, 0}, {2}, {2, 0}, {3}};
        int[] counts = {4, 0, 2, 0, 1, 0, 1, 0, 0};
        for (int p = 0; p < places.length; p++) {
            int[] steps = places[p];
            for (int i : new int[] {-1, counts[p], counts[p] + 1, 256, 65536, Integer.MIN_VALUE, Integer.MAX_VALUE}) {
                changesNothing("down(" + i + ") at place " + p, () -> used("e=5", steps), x -> x.down(i), Due.INDEX);
            }
        }
    }

    private static void upIsRefused() {
        changesNothing("up at the document", () -> used("e=5"), TableText::up, Due.STATE);
        changesNothing("up at a new document", TableText::new, TableText::up, Due.STATE);
    }

    private static void letterIsRefused() {
        int[][] noStrings = {{}, {0}, {1}, {1, 0}, {1, 1}, {2}, {3}};
        for (int[] steps : noStrings) {
            for (int i : new int[] {0, -1, Integer.MIN_VALUE, Integer.MAX_VALUE}) {
                changesNothing("letter(" + i + ") of no string", () -> used("e=5", steps), x -> x.letter(i), Due.STATE);
            }
        }
        for (int i : new int[] {-1, 3, 4, 256, 65536, Integer.MIN_VALUE, Integer.MAX_VALUE}) {
            changesNothing("letter(" + i + ") of three", () -> used("e=5", 1, 1, 0), x -> x.letter(i), Due.INDEX);
        }
        for (int i : new int[] {-1, 0, 1}) {
            changesNothing("letter(" + i + ") of none", () -> used("e=5", 2, 0), x -> x.letter(i), Due.INDEX);
        }
    }

    private static void keyIsRefused() {
        int[][] noEntries = {{}, {1, 0}, {1, 1}};
        for (int[] steps : noEntries) {
            for (int i : new int[] {0, -1, Integer.MIN_VALUE, Integer.MAX_VALUE}) {
                changesNothing("key(" + i + ") of no entry", () -> used("e=5", steps), x -> x.key(i), Due.STATE);
            }
        }
    }

    /** The document and the cursor stay, and what was written; the text is empty, as it was. */
    private static void wrongTextsAreRefused() {
        String[] wrong = {"!", "n=6\nn=7", "l=1\n[l]", "c.d=1\n[c]", "[[m]]\n[m]", "n=[1", "c={d.e=1,", "n='" + Due.times("s", 31),
            "n=[[[[[[[", "n=2023-02-29", "n=1234567890", Due.times("x", 240)};
        int[][] places = {{}, {1, 1, 0}, {2, 0}, {3}};
        for (String text : wrong) {
            for (int[] steps : places) {
                TableText x = used(text, steps);
                String place = Due.answer(x::read);
                Due.same("is told as wrong: " + text, "" + (Integer.parseInt(place) >= 0), "true");
                Due.same("everything behind " + text, Due.everything(x), Due.everything(used("", steps)));
            }
        }
    }

    private static void looksChangeNothing() {
        int[][] places = {{}, {0}, {1, 1, 0}};
        for (int[] steps : places) {
            TableText x = used("e=5", steps);
            x.kind();
            x.value();
            x.written(3);
            Due.answer(() -> x.letter(0));
            Due.answer(() -> x.key(0));
            Due.same("everything behind looks", Due.everything(x), Due.everything(used("e=5", steps)));
        }
    }

    private static void aCallChangesWhatItSaysAlone() {
        TableText typed = used("", 1, 1, 0);
        typed.type('e' << 16 | '=' << 8 | '5', 3);
        Due.same("everything behind type", Due.everything(typed), Due.everything(used("e=5", 1, 1, 0)));
        TableText moved = used("e=5", 1, 1, 0);
        moved.top();
        moved.down(1);
        moved.down(0);
        moved.up();
        Due.same("everything behind top, down and up", Due.everything(moved), Due.everything(used("e=5", 1)));
        TableText wrote = used("e=5", 1, 1, 0);
        wrote.write();
        TableText twice = used("e=5", 1, 1, 0);
        twice.write();
        twice.write();
        Due.same("everything behind a second write", Due.everything(twice), Due.everything(wrote));
        Due.is("the cursor behind a write", () -> afterWrite().kind(), 3);
        Due.is("the text behind a write", () -> afterWrite().type('6', 1), 4);
        TableText read = used("", 1, 1, 0);
        read.read();
        Due.is("written behind a read", () -> read.written(0), 'o');
        Due.fails("written behind a read, its end", () -> read.written(8), Due.INDEX);
    }

    private static TableText afterWrite() {
        TableText x = used("e=5", 1, 1, 0);
        x.write();
        return x;
    }

    private static void objectsHaveNothingInCommon() {
        TableText x = used("e=5", 1, 1, 0);
        TableText y = new TableText();
        Due.type(y, "z=9");
        y.read();
        y.write();
        Due.same("everything of the first", Due.everything(x), Due.everything(used("e=5", 1, 1, 0)));
        Due.same("written of the second", Due.written(y), "z = 9\n");
    }
}
