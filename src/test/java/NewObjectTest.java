/** Promise 1. */
final class NewObjectTest {
    public static void main(String[] args) {
        Due.is("kind", () -> new TableText().kind(), 7);
        Due.is("value", () -> new TableText().value(), 0);
        Due.is("top", () -> new TableText().top(), 0);
        Due.is("write", () -> new TableText().write(), 0);
        Due.is("type", () -> new TableText().type('a', 1), 1);
        Due.is("read", () -> new TableText().read(), -1);
        Due.fails("written(0)", () -> new TableText().written(0), Due.INDEX);
        Due.fails("up", () -> new TableText().up(), Due.STATE);
        Due.fails("down(0)", () -> new TableText().down(0), Due.INDEX);
        Due.fails("letter(0)", () -> new TableText().letter(0), Due.STATE);
        Due.fails("key(0)", () -> new TableText().key(0), Due.STATE);
        Due.end();
    }
}
