import java.util.function.IntUnaryOperator;

/** What the tests share: a way to call TableText with whole texts, and to say what is due. */
final class Due {
    static final String ARGUMENT = "throws.IllegalArgumentException";
    static final String STATE = "throws.IllegalStateException";
    static final String INDEX = "throws.IndexOutOfBoundsException";

    /** One call of the face, so that what it throws can be told as an answer. */
    interface Call {
        int answer();
    }

    private static int checked = 0;
    private static int wrong = 0;

    private Due() {
    }

    static String answer(Call call) {
        try {
            return String.valueOf(call.answer());
        } catch (RuntimeException e) {
            return "throws." + e.getClass().getSimpleName();
        }
    }

    static void is(String what, Call call, int want) {
        same(what, answer(call), String.valueOf(want));
    }

    static void fails(String what, Call call, String want) {
        same(what, answer(call), want);
    }

    static void same(String what, String got, String want) {
        checked++;
        if (!got.equals(want)) {
            wrong++;
            System.out.println(what + " answered " + shown(got) + ", due is " + shown(want));
        }
    }

    /** Types a whole text, as many characters a call as there can be. */
    static void type(TableText x, String text) {
        for (int from = 0; from < text.length(); from += 8) {
            int n = Math.min(8, text.length() - from);
            long characters = 0;
            for (int i = 0; i < n; i++) {
                characters = characters << 8 | text.charAt(from + i);
            }
            x.type(characters, n);
        }
    }

    /** A new object that has read the text, which must be right. */
    static TableText of(String text) {
        TableText x = new TableText();
        type(x, text);
        is("read " + shown(text), x::read, -1);
        return x;
    }

    /** The text is read by a new object: the place is due, and an object that held something keeps it. */
    static void wrongAt(String text, int place) {
        TableText x = of("kept=[7]");
        x.down(0);
        type(x, text);
        is("read " + shown(text), x::read, place);
        is("kind after " + shown(text), x::kind, 5);
        same("kept after " + shown(text), written(x), "kept = [7]\n");
    }

    /** The place is where the mark ^ stands, which is taken out of the text before. */
    static void wrongAtMark(String marked) {
        int place = marked.indexOf('^');
        wrongAt(marked.substring(0, place) + marked.substring(place + 1), place);
    }

    /** The text is right, and this is what it is written as. */
    static void reads(String text, String want) {
        same("write of " + shown(text), written(of(text)), want);
    }

    static String written(TableText x) {
        int count = x.write();
        StringBuilder all = new StringBuilder();
        for (int i = 0; i < Math.min(count, 600); i++) {
            all.append((char) x.written(i));
        }
        return all.toString();
    }

    /** The cursor goes from the document along these steps; the kind where it comes to. */
    static int walk(TableText x, int... steps) {
        x.top();
        for (int step : steps) {
            x.down(step);
        }
        return x.kind();
    }

    static String key(TableText x) {
        return characters(x::key);
    }

    /** What an indexed call of the face answers from 0 on, up to the first -1 or exception. */
    private static String characters(IntUnaryOperator call) {
        StringBuilder all = new StringBuilder();
        int c = characterOrNone(call, 0);
        for (int i = 1; c >= 0; i++) {
            all.append((char) c);
            c = characterOrNone(call, i);
        }
        return all.toString();
    }

    private static int characterOrNone(IntUnaryOperator call, int i) {
        try {
            return call.applyAsInt(i);
        } catch (IllegalStateException | IndexOutOfBoundsException e) {
            return -1;
        }
    }

    /** All that the face shows of an object, so that two can be told apart; the object is used up by it. */
    static String everything(TableText x) {
        StringBuilder all = new StringBuilder();
        all.append("letters ").append(characters(x::letter));
        all.append(", written ").append(characters(x::written));
        all.append(", cursor");
        String up = "";
        while (!up.equals(STATE)) {
            all.append(" in ").append(x.kind()).append(' ').append(x.value()).append(' ');
            all.append(answer(() -> x.key(0))).append(characters(x::key));
            up = answer(x::up);
        }
        all.append(", document ").append(x.top()).append(' ').append(written(x));
        all.append(", text ").append(x.type('\n', 1)).append(' ').append(x.read());
        return all.append(' ').append(written(x)).toString();
    }

    static String times(String part, int n) {
        return part.repeat(n);
    }

    /** To be called last: ends the program as .ci/run wants it. */
    static void end() {
        System.out.println(checked + " answers looked at, " + wrong + " not as due");
        if (wrong != 0 || checked == 0) {
            System.exit(1);
        }
    }

    private static String shown(String text) {
        return "\"" + text.replace("\n", "\\n").replace("\t", "\\t") + "\"";
    }
}
