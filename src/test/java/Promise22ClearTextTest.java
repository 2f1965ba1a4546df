/** The cases of promise 22: clearText. */
public final class Promise22ClearTextTest extends Cases {
    public static void main(String[] args) {
        run(Promise22ClearTextTest.class, 22);
    }

    static void promise22AnEmptyText() {
        unchanging(Halls::empty, x -> x.clearText(), 0);
        unchanging(Halls::fourStates, x -> x.clearText(), 0);
    }

    static void promise22OneCharacter() {
        FreightSplits x = Halls.typed("x");
        due("clearText", x.clearText(), 1);
        same("cleared:", x, new FreightSplits());
    }

    static void promise22AFullText() {
        FreightSplits x = Halls.typed("x".repeat(80));
        due("clearText", x.clearText(), 80);
        same("cleared:", x, new FreightSplits());
    }

    static void promise22Twice() {
        FreightSplits x = Halls.typed("pass 1;");
        due("clearText", x.clearText(), 7);
        due("again", x.clearText(), 0);
    }

    static void promise22TheFaultIsGone() {
        FreightSplits x = Halls.typed("x");
        due("fault", x.fault(0), 0);
        x.clearText();
        due("fault", x.fault(0), NOT_FOUND);
        due("play", x.play(), 0);
    }

    static void promise22NothingOfTheOldTextIsLeft() {
        FreightSplits x = Halls.typed("pass 1;pass 2;");
        x.clearText();
        Expect.typed(x, "pass 4");
        due("fault", x.fault(0), 0);
        Expect.typed(x, ";");
        due("play", x.play(), 1);
        due("the time", x.count(2), 4);
    }

    static void promise22ItIsNoChange() {
        FreightSplits x = Halls.busy();
        due("clearText", x.clearText(), 12);
        due("states", x.count(11), 4);
        FreightSplits y = Halls.busy();
        y.undo();
        due("undo", x.undo(), 3);
        y.clearText();
        same("undone:", x, y);
    }
}
