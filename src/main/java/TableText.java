import java.util.ArrayList;

/** Settings, read from a text into tables within tables; ../shared/DOC.md is its document. */
public final class TableText {
    private static final int MOST_TEXT = 240;
    private static final int MOST_KEPT = 600;
    private static final int MOST_LETTERS = 30;
    private static final int MOST_DEEP = 6;
    private static final int MOST_DIGITS = 9;
    private static final int MOST_HEX_DIGITS = 7;
    private static final int BYTES_OF_LONG = 8;
    /** Every value takes at least one character of the text, and a row with its list five. */
    private static final int MOST_NODES = 2 * MOST_TEXT;

    private static final int TEXT_END = -1;
    private static final char LINE_END = 10;
    private static final char TAB = 9;

    private static final int NUMBER = 1;
    private static final int TRUTH = 2;
    private static final int STRING = 3;
    private static final int DATE = 4;
    private static final int PLAIN_LIST = 5;
    private static final int ROWS = 6;
    private static final int TOLD = 7;
    private static final int IMPLIED = 8;
    private static final int DOTTED = 9;
    private static final int CLOSED = 10;

    private static final int[] DAYS = {31, 28, 31, 30, 31, 30, 31, 31, 30, 31, 30, 31};

    private final char[] text;
    private final Page page;
    private int length;
    private Node document;
    private Node cursor;

    public TableText() {
        text = new char[MOST_TEXT];
        page = new Page();
        length = 0;
        document = new Node(TOLD, 0);
        cursor = document;
    }

    public int type(long characters, int n) throws IllegalArgumentException, IllegalStateException {
        if (n < 1 || n > BYTES_OF_LONG || !allAreCharacters(characters, n)) {
            throw new IllegalArgumentException();
        }
        if (length + n > MOST_TEXT) {
            throw new IllegalStateException();
        }
        for (int i = n - 1; i >= 0; i--) {
            text[length] = (char) byteAt(characters, i);
            length++;
        }
        return length;
    }

    public int read() {
        Reader reader = new Reader(text, length);
        length = 0;
        Node found = reader.readDocument();
        if (found == null) {
            return reader.wrongPlace;
        }
        document = found;
        cursor = found;
        return -1;
    }

    public int write() {
        page.fill(document);
        return page.count;
    }

    public int written(int i) throws IndexOutOfBoundsException {
        if (i < 0 || i >= page.count || i >= MOST_KEPT) {
            throw new IndexOutOfBoundsException();
        }
        return page.kept[i];
    }

    public int top() {
        cursor = document;
        return document.amount;
    }

    public int down(int i) throws IndexOutOfBoundsException {
        Node inner = cursor.inner(i);
        if (inner == null) {
            throw new IndexOutOfBoundsException();
        }
        cursor = inner;
        return cursor.sort;
    }

    public int up() throws IllegalStateException {
        Node outer = cursor.outer;
        if (outer == null) {
            throw new IllegalStateException();
        }
        cursor = outer;
        return cursor.sort;
    }

    public int kind() {
        return cursor.sort;
    }

    public int value() {
        return cursor.amount;
    }

    public int letter(int i) throws IllegalStateException, IndexOutOfBoundsException {
        String letters = cursor.letters;
        if (letters == null) {
            throw new IllegalStateException();
        }
        if (i < 0 || i >= letters.length()) {
            throw new IndexOutOfBoundsException();
        }
        return letters.charAt(i);
    }

    public int key(int i) throws IllegalStateException {
        String name = cursor.name;
        if (name == null) {
            throw new IllegalStateException();
        }
        return i >= 0 && i < name.length() ? name.charAt(i) : -1;
    }

    private static boolean allAreCharacters(long characters, int n) {
        for (int i = 0; i < n; i++) {
            int code = byteAt(characters, i);
            if (code != LINE_END && (code < 32 || code > 126)) {
                return false;
            }
        }
        return true;
    }

    /** Byte 0 is the lowest one. */
    private static int byteAt(long characters, int i) {
        return (int) (characters >>> 8 * i) & 255;
    }

    private static boolean isBareLetter(int c) {
        return c >= 'a' && c <= 'z' || c >= 'A' && c <= 'Z' || c >= '0' && c <= '9' || c == '_' || c == '-';
    }

    /** A value, in a chain with those that lie in the same list or table. */
    private static final class Node {
        /** One of the ten kinds. */
        private int sort;
        /** The number, date or truth itself; else how many values, entries or characters there are. */
        private int amount;
        /** The characters of a string; null for all else. */
        private String letters;
        /** The key of an entry; null for the document and for what lies in a list. */
        private String name;
        private Node outer;
        private Node first;
        private Node last;
        private Node next;

        private Node(int sort, int amount) {
            this.sort = sort;
            this.amount = amount;
        }

        private boolean isList() {
            return sort == PLAIN_LIST || sort == ROWS;
        }

        private boolean isTable() {
            return sort >= TOLD;
        }

        private void add(Node inner) {
            inner.outer = this;
            if (last == null) {
                first = inner;
            } else {
                last.next = inner;
            }
            last = inner;
            amount++;
        }

        private Node inner(int i) {
            if (i < 0) {
                return null;
            }
            Node found = first;
            for (int passed = 0; passed < i && found != null; passed++) {
                found = found.next;
            }
            return found;
        }

        private Node entryNamed(String wanted) {
            for (Node entry = first; entry != null; entry = entry.next) {
                if (entry.name != null && entry.name.equals(wanted)) {
                    return entry;
                }
            }
            return null;
        }

        private Node entryOrNew(String wanted, int newSort) {
            Node there = entryNamed(wanted);
            if (there == null) {
                there = new Node(newSort, 0);
                there.name = wanted;
                add(there);
            }
            return there;
        }
    }

    /** A part of a path, with the place where it begins, for the rules on what is there. */
    private static final class Step {
        private final String name;
        private final int place;
        private Step next;

        private Step(String name, int place) {
            this.name = name;
            this.place = place;
        }
    }

    /** Reads one text; a method that answers null, false or -1 has set the place where it is wrong. */
    private static final class Reader {
        private final char[] text;
        private final int length;
        private final StringBuilder letters;
        /** The tables that entries went through by dots, so that a closed table can close its own when it ends. */
        private final ArrayList<Node> dotted;
        private final Node document;
        private Node opened;
        private int at;
        private int wrongPlace;

        private Reader(char[] text, int length) {
            this.text = text;
            this.length = length;
            letters = new StringBuilder();
            dotted = new ArrayList<Node>();
            document = new Node(TOLD, 0);
            opened = document;
            at = 0;
            wrongPlace = -1;
        }

        private Node readDocument() {
            boolean more = true;
            for (int lines = 0; more && lines <= MOST_TEXT; lines++) {
                skipBlanks();
                boolean good = saysNothing(peek()) || (peek() == '[' ? readHeader() : readEntry(opened, 0));
                if (!good) {
                    return null;
                }
                skipBlanks();
                skipComment();
                more = peek() != TEXT_END;
                if (more && !take(LINE_END)) {
                    return null;
                }
            }
            return document;
        }

        private static boolean saysNothing(int c) {
            return c == TEXT_END || c == LINE_END || c == '#';
        }

        private boolean readHeader() {
            at++;
            boolean ofRows = peek() == '[';
            if (ofRows) {
                at++;
            }
            skipBlanks();
            Step path = readPath();
            Node table = path == null ? null : openTable(path, ofRows);
            if (table == null) {
                return false;
            }
            opened = table;
            return take(']') && (!ofRows || take(']'));
        }

        private boolean readEntry(Node table, int deep) {
            Step step = readPath();
            Node target = table;
            while (step != null && step.next != null && target != null) {
                target = dottedTable(target, step);
                step = step.next;
            }
            if (step == null || target == null) {
                return false;
            }
            if (target.entryNamed(step.name) != null) {
                wrong(step.place);
                return false;
            }
            if (!take('=')) {
                return false;
            }
            skipBlanks();
            Node found = readValue(deep);
            if (found == null) {
                return false;
            }
            found.name = step.name;
            target.add(found);
            return true;
        }

        /** The whole path is read before it is looked up: a fault in its form goes before one in what is there. */
        private Step readPath() {
            Step first = null;
            Step last = null;
            boolean more = true;
            for (int parts = 0; more && parts < MOST_TEXT; parts++) {
                int place = at;
                String name = peek() == '"' ? readQuoted() : readBare();
                if (name == null) {
                    return null;
                }
                Step step = new Step(name, place);
                if (last == null) {
                    first = step;
                } else {
                    last.next = step;
                }
                last = step;
                skipBlanks();
                more = peek() == '.';
                if (more) {
                    at++;
                    skipBlanks();
                }
            }
            return first;
        }

        private Node dottedTable(Node table, Step step) {
            Node there = table.entryOrNew(step.name, DOTTED);
            if (there.sort != DOTTED) {
                return wrong(step.place);
            }
            dotted.add(there);
            return there;
        }

        private Node openTable(Step path, boolean ofRows) {
            Node table = document;
            Step step = path;
            while (step.next != null && table != null) {
                table = throughTable(table, step);
                step = step.next;
            }
            if (table == null) {
                return null;
            }
            return ofRows ? newRow(table, step) : toldTable(table, step);
        }

        private Node throughTable(Node table, Step step) {
            Node there = table.entryOrNew(step.name, IMPLIED);
            if (there.sort == ROWS) {
                return there.last;
            }
            return there.isTable() && there.sort != CLOSED ? there : wrong(step.place);
        }

        private Node toldTable(Node table, Step step) {
            Node there = table.entryOrNew(step.name, IMPLIED);
            if (there.sort != IMPLIED) {
                return wrong(step.place);
            }
            there.sort = TOLD;
            return there;
        }

        private Node newRow(Node table, Step step) {
            Node there = table.entryOrNew(step.name, ROWS);
            if (there.sort != ROWS) {
                return wrong(step.place);
            }
            Node row = new Node(TOLD, 0);
            there.add(row);
            return row;
        }

        /** deep is how many lists and closed tables the value lies in. */
        private Node readValue(int deep) {
            int c = peek();
            if (c == '[' || c == '{') {
                if (deep >= MOST_DEEP) {
                    return wrong(at);
                }
                return c == '[' ? readList(deep + 1) : readClosedTable(deep + 1);
            }
            if (c == '"' || c == '\'') {
                return readString();
            }
            if (c == 't') {
                return readTruth("true", 1);
            }
            if (c == 'f') {
                return readTruth("false", 0);
            }
            return dateBegins() ? readDate() : readNumber();
        }

        private Node readList(int deep) {
            Node list = new Node(PLAIN_LIST, 0);
            at++;
            skipBlanksLinesAndComments();
            boolean more = peek() != ']';
            for (int values = 0; more && values < MOST_TEXT; values++) {
                Node found = readValue(deep);
                if (found == null) {
                    return null;
                }
                list.add(found);
                skipBlanksLinesAndComments();
                more = peek() == ',';
                if (more) {
                    at++;
                    skipBlanksLinesAndComments();
                    more = peek() != ']';
                }
            }
            return take(']') ? list : null;
        }

        private Node readClosedTable(int deep) {
            Node table = new Node(CLOSED, 0);
            int dottedBefore = dotted.size();
            at++;
            skipBlanks();
            boolean more = peek() != '}';
            for (int entries = 0; more && entries < MOST_TEXT; entries++) {
                if (!readEntry(table, deep)) {
                    return null;
                }
                skipBlanks();
                more = peek() == ',';
                if (more) {
                    at++;
                    skipBlanks();
                }
            }
            if (!take('}')) {
                return null;
            }
            for (int i = dottedBefore; i < dotted.size(); i++) {
                dotted.get(i).sort = CLOSED;
            }
            return table;
        }

        private Node readString() {
            String found = peek() == '"' ? readQuoted() : readPlainlyQuoted();
            if (found == null) {
                return null;
            }
            Node string = new Node(STRING, found.length());
            string.letters = found;
            return string;
        }

        /** Every fault stops the loop before a character that is no end quote, and so is told by take. */
        private String readQuoted() {
            letters.setLength(0);
            at++;
            boolean more = true;
            while (more && letters.length() < MOST_LETTERS && goesOnInString('"')) {
                char c = text[at];
                if (c == '\\') {
                    at++;
                    c = escaped(peek());
                }
                more = c != 0;
                if (more) {
                    letters.append(c);
                    at++;
                }
            }
            return take('"') ? letters.toString() : null;
        }

        private String readPlainlyQuoted() {
            letters.setLength(0);
            at++;
            while (letters.length() < MOST_LETTERS && goesOnInString('\'')) {
                letters.append(text[at]);
                at++;
            }
            return take('\'') ? letters.toString() : null;
        }

        private boolean goesOnInString(int quote) {
            return at < length && text[at] != quote && text[at] != LINE_END;
        }

        /** 0, which no text holds, where c can not stand behind a backslash. */
        private static char escaped(int c) {
            switch (c) {
                case '"':
                    return '"';
                case '\\':
                    return '\\';
                case 'n':
                    return LINE_END;
                case 't':
                    return TAB;
                default:
                    return 0;
            }
        }

        private String readBare() {
            letters.setLength(0);
            while (letters.length() < MOST_LETTERS && at < length && isBareLetter(text[at])) {
                letters.append(text[at]);
                at++;
            }
            if (letters.length() == 0 || isBareLetter(peek())) {
                wrong(at);
                return null;
            }
            return letters.toString();
        }

        private Node readTruth(String word, int truth) {
            for (int i = 0; i < word.length(); i++) {
                if (!take(word.charAt(i))) {
                    return null;
                }
            }
            return new Node(TRUTH, truth);
        }

        private Node readNumber() {
            boolean signed = peek() == '+' || peek() == '-';
            boolean negative = peek() == '-';
            if (signed) {
                at++;
            }
            int size = 0;
            if (peek() != '0') {
                size = readDigits(10, MOST_DIGITS);
            } else {
                at++;
                if (!signed && peek() == 'x') {
                    at++;
                    size = readDigits(16, MOST_HEX_DIGITS);
                }
            }
            if (size < 0) {
                return null;
            }
            return new Node(NUMBER, negative ? -size : size);
        }

        private int readDigits(int base, int most) {
            int number = 0;
            boolean more = true;
            for (int digits = 0; more && digits <= most; digits++) {
                int digit = digitAt(at, base);
                if (digit < 0 || digits >= most) {
                    wrong(at);
                    return -1;
                }
                number = number * base + digit;
                at++;
                more = peek() == '_' || digitAt(at, base) >= 0;
                if (peek() == '_') {
                    at++;
                }
            }
            return number;
        }

        private boolean dateBegins() {
            for (int i = 0; i < 4; i++) {
                if (digitAt(at + i, 10) < 0) {
                    return false;
                }
            }
            return at + 4 < length && text[at + 4] == '-';
        }

        private Node readDate() {
            int year = 0;
            for (int i = 0; i < 4; i++) {
                year = 10 * year + digitAt(at, 10);
                at++;
            }
            at++;
            int month = readTwoDigits(12);
            if (month < 0 || !take('-')) {
                return null;
            }
            int day = readTwoDigits(daysOf(year, month));
            if (day < 0) {
                return null;
            }
            return new Node(DATE, 10000 * year + 100 * month + day);
        }

        private int readTwoDigits(int most) {
            int place = at;
            int number = 0;
            for (int i = 0; i < 2; i++) {
                int digit = digitAt(at, 10);
                if (digit < 0) {
                    wrong(at);
                    return -1;
                }
                number = 10 * number + digit;
                at++;
            }
            if (number < 1 || number > most) {
                wrong(place);
                return -1;
            }
            return number;
        }

        private static int daysOf(int year, int month) {
            boolean leap = year % 4 == 0 && (year % 100 != 0 || year % 400 == 0);
            if (month == 2 && leap) {
                return 29;
            }
            return month >= 1 && month <= 12 ? DAYS[month - 1] : 0;
        }

        private int digitAt(int place, int base) {
            int c = place < length ? text[place] : TEXT_END;
            if (c >= '0' && c <= '9') {
                return c - '0';
            }
            return base == 16 && c >= 'a' && c <= 'f' ? c - 'a' + 10 : -1;
        }

        private void skipBlanks() {
            while (at < length && text[at] == ' ') {
                at++;
            }
        }

        private void skipComment() {
            if (peek() == '#') {
                while (at < length && text[at] != LINE_END) {
                    at++;
                }
            }
        }

        private void skipBlanksLinesAndComments() {
            boolean inComment = false;
            for (; at < length; at++) {
                char c = text[at];
                if (c == LINE_END) {
                    inComment = false;
                } else if (c == '#') {
                    inComment = true;
                } else if (c != ' ' && !inComment) {
                    return;
                }
            }
        }

        private int peek() {
            return at < length ? text[at] : TEXT_END;
        }

        private boolean take(int c) {
            if (at >= length || text[at] != c) {
                wrongPlace = at;
                return false;
            }
            at++;
            return true;
        }

        /** Answers null, so that a method can tell the place and end in one line. */
        private Node wrong(int place) {
            wrongPlace = place;
            return null;
        }
    }

    /** What was written last. */
    private static final class Page {
        private final char[] kept;
        private int count;

        private Page() {
            kept = new char[MOST_KEPT];
            count = 0;
        }

        /** Goes along the chains, for tables by dots lie deeper than recursion should go. */
        private void fill(Node document) {
            count = 0;
            Node node = document.first;
            for (int nodes = 0; node != null && nodes < MOST_NODES; nodes++) {
                putBeginning(node);
                node = node.first != null ? node.first : putEndings(node);
            }
        }

        private void putBeginning(Node node) {
            if (node.name != null) {
                putName(node.name);
                putAll(" = ");
            }
            if (node.isTable()) {
                put('{');
            } else if (node.isList()) {
                put('[');
            } else if (node.letters != null) {
                putQuoted(node.letters);
            } else if (node.sort == TRUTH) {
                putAll(node.amount == 1 ? "true" : "false");
            } else if (node.sort == DATE) {
                putDate(node.amount);
            } else {
                putNumber(node.amount);
            }
        }

        /** Ends the node, with what it is the last value of, and answers the value that comes then. */
        private Node putEndings(Node node) {
            Node ended = node;
            putEnd(ended);
            while (ended.next == null && !isLine(ended)) {
                ended = ended.outer;
                putEnd(ended);
            }
            putAll(isLine(ended) ? "\n" : ", ");
            return ended.next;
        }

        /** The document's own entries have a line each; the document alone lies in nothing. */
        private static boolean isLine(Node node) {
            return node.outer == null || node.outer.outer == null;
        }

        private void putEnd(Node node) {
            if (node.isTable()) {
                put('}');
            } else if (node.isList()) {
                put(']');
            }
        }

        private void putName(String name) {
            boolean bare = !name.isEmpty();
            for (int i = 0; i < name.length(); i++) {
                bare = bare && isBareLetter(name.charAt(i));
            }
            if (bare) {
                putAll(name);
            } else {
                putQuoted(name);
            }
        }

        private void putQuoted(String letters) {
            put('"');
            for (int i = 0; i < letters.length(); i++) {
                char c = letters.charAt(i);
                if (c == LINE_END) {
                    putAll("\\n");
                } else if (c == TAB) {
                    putAll("\\t");
                } else {
                    if (c == '"' || c == '\\') {
                        put('\\');
                    }
                    put(c);
                }
            }
            put('"');
        }

        private void putDate(int date) {
            putDigits(date / 10000, 4);
            put('-');
            putDigits(date / 100 % 100, 2);
            put('-');
            putDigits(date % 100, 2);
        }

        private void putNumber(int number) {
            if (number < 0) {
                put('-');
            }
            putDigits(Math.abs(number), 1);
        }

        private void putDigits(int number, int fewest) {
            int unit = 1;
            for (int digits = 1; digits < MOST_DIGITS && (digits < fewest || number / 10 >= unit); digits++) {
                unit *= 10;
            }
            for (; unit > 0; unit /= 10) {
                put((char) ('0' + number / unit % 10));
            }
        }

        private void putAll(String letters) {
            for (int i = 0; i < letters.length(); i++) {
                put(letters.charAt(i));
            }
        }

        private void put(char c) {
            if (count < MOST_KEPT) {
                kept[count] = c;
            }
            count++;
        }
    }
}
