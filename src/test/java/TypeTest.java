/** Promise 2. */
final class TypeTest {
    public static void main(String[] args) {
        theHighestByteComesFirst();
        bytesAboveTheLowestAreNotLookedAt();
        countsAndCharactersThatAreNone();
        theTextEndsAt240();
        oneToEightBytesInTheirOrder();
        everyByteIsLookedAt();
        whatIsNoneGoesBeforeWhatIsTooMuch();
        Due.end();
    }

    private static void oneToEightBytesInTheirOrder() {
        long characters = 0x6162636465666768L;
        String all = "abcdefgh";
        for (int n = 1; n <= 8; n++) {
            int count = n;
            long above = n == 8 ? 0 : -1L << 8 * n;
            TableText x = new TableText();
            Due.type(x, "s='");
            Due.is("type the lowest " + n, () -> x.type(characters | above, count), 3 + n);
            Due.type(x, "'");
            Due.is("read", x::read, -1);
            Due.same("written", Due.written(x), "s = \"" + all.substring(8 - n) + "\"\n");
        }
    }

    /** Each of the n bytes may be the one that is none, and no byte above them is asked. */
    private static void everyByteIsLookedAt() {
        int[] none = {0, 9, 11, 13, 31, 127, 128, 138, 160, 255};
        int[] some = {10, 32, 33, 126};
        for (int n = 1; n <= 8; n++) {
            int count = n;
            for (int place = 0; place < 8; place++) {
                for (int code : none) {
                    long characters = withByte(code, place);
                    String want = place < n ? Due.ARGUMENT : String.valueOf(n);
                    Due.fails("type " + n + ", byte " + place + " is " + code, () -> new TableText().type(characters, count), want);
                }
                for (int code : some) {
                    long characters = withByte(code, place);
                    Due.is("type " + n + ", byte " + place + " is " + code, () -> new TableText().type(characters, count), n);
                }
            }
        }
    }

    private static long withByte(int code, int place) {
        return 0x6161616161616161L & ~(0xffL << 8 * place) | (long) code << 8 * place;
    }

    /** As the document names them: where both would be due, the argument is refused. */
    private static void whatIsNoneGoesBeforeWhatIsTooMuch() {
        TableText x = new TableText();
        Due.type(x, Due.times(" ", 240));
        Due.fails("type(.., 0) into a full text", () -> x.type('a', 0), Due.ARGUMENT);
        Due.fails("type(.., 9) into a full text", () -> x.type('a', 9), Due.ARGUMENT);
        Due.fails("type of none into a full text", () -> x.type(127, 1), Due.ARGUMENT);
        Due.fails("type of one into a full text", () -> x.type(126, 1), Due.STATE);
    }

    private static void theHighestByteComesFirst() {
        TableText x = new TableText();
        Due.is("type(a=)", () -> x.type('a' << 8 | '=', 2), 2);
        Due.is("type(5)", () -> x.type('5', 1), 3);
        Due.is("type(8 bytes)", () -> x.type(0x20202020200a623dL, 8), 11);
        Due.is("type(6)", () -> x.type('6', 1), 12);
        Due.is("read", x::read, -1);
        Due.same("written", Due.written(x), "a = 5\nb = 6\n");
        Due.is("type behind a read", () -> x.type('c', 1), 1);
    }

    private static void bytesAboveTheLowestAreNotLookedAt() {
        TableText x = new TableText();
        Due.is("type(ff..61)", () -> x.type(0xffffffffffffff00L | 'a', 1), 1);
        Due.is("type(00..3d31)", () -> x.type(0x00000000007f3d31L, 2), 3);
        Due.is("read", x::read, -1);
        Due.same("written", Due.written(x), "a = 1\n");
    }

    private static void countsAndCharactersThatAreNone() {
        TableText x = new TableText();
        int[] counts = {0, -1, 9, Integer.MIN_VALUE, Integer.MAX_VALUE};
        for (int n : counts) {
            Due.fails("type(.., " + n + ")", () -> x.type(0x6161616161616161L, n), Due.ARGUMENT);
        }
        for (int c = 0; c < 256; c++) {
            int code = c;
            boolean good = c == 10 || c >= 32 && c <= 126;
            Due.same("type(" + c + ", 1)", Due.answer(() -> new TableText().type(code, 1)), good ? "1" : Due.ARGUMENT);
        }
        Due.fails("type, the first is none", () -> x.type(0x0961616161616161L, 8), Due.ARGUMENT);
        Due.fails("type, the last is none", () -> x.type(0x616161616161617fL, 8), Due.ARGUMENT);
        Due.is("type behind refusals", () -> x.type('#', 1), 1);
    }

    private static void theTextEndsAt240() {
        TableText x = new TableText();
        Due.type(x, "#" + Due.times("x", 236));
        Due.fails("type 4 behind 237", () -> x.type(0x61616161L, 4), Due.STATE);
        Due.fails("type 8 behind 237", () -> x.type(0x6161616161616161L, 8), Due.STATE);
        Due.fails("type 4 behind 237, one none", () -> x.type(0x61610061L, 4), Due.ARGUMENT);
        Due.is("type 3 behind 237", () -> x.type(0x616161L, 3), 240);
        Due.fails("type 1 behind 240", () -> x.type('a', 1), Due.STATE);
        Due.fails("type 9 behind 240", () -> x.type('a', 9), Due.ARGUMENT);
        Due.is("read", x::read, -1);
        Due.is("type behind a read", () -> x.type('a', 1), 1);
        Due.is("read of a", x::read, 1);
        Due.is("type behind a wrong read", () -> x.type('b', 1), 1);
    }
}
