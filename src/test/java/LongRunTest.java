import com.sun.management.ThreadMXBean;
import java.lang.management.ManagementFactory;

/** The promises hold for 512 calls, the dearest ones too. */
final class LongRunTest {
    private static final int MOST_CALLS = 512;

    public static void main(String[] args) {
        callsOfOneKind();
        fullTextsRightAndWrong();
        manyRowsAndTheirShowing();
        theDearestCallsStaySmall();
        Due.end();
    }

    private static void callsOfOneKind() {
        TableText reads = new TableText();
        TableText writes = new TableText();
        TableText tops = new TableText();
        TableText refused = new TableText();
        for (int i = 0; i < MOST_CALLS; i++) {
            Due.is("read " + i, reads::read, -1);
            Due.is("write " + i, writes::write, 0);
            Due.is("top " + i, tops::top, 0);
            Due.fails("up " + i, refused::up, Due.STATE);
        }
        TableText typed = new TableText();
        for (int i = 1; i <= 240; i++) {
            Due.is("type " + i, () -> typed.type(' ', 1), i);
        }
        for (int i = 241; i < MOST_CALLS; i++) {
            Due.fails("type " + i, () -> typed.type(' ', 1), Due.STATE);
        }
        Due.is("read as the last call", typed::read, -1);
    }

    /** 32 calls a round, 16 rounds: the texts are as long as can be, in turns right and wrong. */
    private static void fullTextsRightAndWrong() {
        String right = "a=[" + Due.times("{},", 78) + "{}]";
        String wrong = "b={c=[" + Due.times("[],", 77) + "[]]";
        TableText x = new TableText();
        for (int round = 0; round < 16; round++) {
            String text = round % 2 == 0 ? right : wrong;
            Due.type(x, text);
            Due.is("read, round " + round, x::read, round % 2 == 0 ? -1 : text.length());
            Due.is("write, round " + round, x::write, 79 * 2 + 78 * 2 + 7);
        }
    }

    private static void manyRowsAndTheirShowing() {
        TableText x = Due.of(Due.times("[[a]]\n", 40));
        Due.walk(x, 0);
        Due.is("rows", x::value, 40);
        for (int i = 0; i < 200; i++) {
            int row = i % 40;
            Due.is("down to row " + row, () -> x.down(row), 7);
            Due.is("up from row " + row, x::up, 6);
        }
        Due.fails("down behind the last row", () -> x.down(40), Due.INDEX);
        Due.is("write", x::write, 4 + 2 + 40 * 2 + 39 * 2 + 1);
    }

    /** The room of a run is some 600,000 objects; a whole run of full texts makes far fewer bytes than that many would. */
    private static void theDearestCallsStaySmall() {
        String[] texts = {Due.times("a.", 118) + "a=1", "a=[" + Due.times("'',", 78) + "'']", Due.times("[[a]]\n", 40), Due.times("\n", 240)};
        ThreadMXBean counter = (ThreadMXBean) ManagementFactory.getThreadMXBean();
        for (String text : texts) {
            long before = counter.getThreadAllocatedBytes(Thread.currentThread().getId());
            TableText x = new TableText();
            for (int round = 0; round < 15; round++) {
                Due.type(x, text);
                x.read();
                x.write();
            }
            long made = counter.getThreadAllocatedBytes(Thread.currentThread().getId()) - before;
            Due.same("is made in one run, bytes under 4 million: " + made, "" + (made < 4_000_000), "true");
        }
    }
}
