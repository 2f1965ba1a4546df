/** The cases of promise 24: play. */
public final class Promise24PlayTest extends Cases {
    public static void main(String[] args) {
        run(Promise24PlayTest.class, 24);
    }

    private static void refused(String text) {
        unchanging(() -> Halls.retyped(Halls.busy(), text), x -> x.play(), NOT_POSSIBLE);
    }

    static void promise24AFaultOfForm() {
        refused("x");
        refused("pass 1;pass 1");
    }

    static void promise24AFaultOfAnArgument() {
        refused("pass 0;");
        refused("pass 1;load 8 0;");
    }

    static void promise24AFaultOfTheState() {
        refused("go 1;");
        refused("pass 5;go 0;go 0;");
    }

    static void promise24AFaultInTheLastOfManyCommands() {
        refused("load 7 1;load 0 0;go 0;go 1;split 6 1 1;offer 1 2 3 4 5;pass 9;join 0 6;");
    }

    static void promise24ALimitThatIsReachedOnTheWay() {
        unchanging(() -> Halls.retyped(Halls.atTheEnd(), "load 1 0;go 0;pass 1;"), x -> x.play(),
                NOT_POSSIBLE);
        unchanging(() -> Halls.retyped(Halls.full(), "pass 1;split 0 1 1;"), x -> x.play(), NOT_POSSIBLE);
    }

    static void promise24NoCommands() {
        change(Halls::empty, x -> x.play(), 0);
        change(Halls::fourStates, x -> x.play(), 0);
    }

    static void promise24NoCommandsAreOneChange() {
        FreightSplits x = new FreightSplits();
        due("play", x.play(), 0);
        due("states", x.count(11), 1);
        due("play", x.play(), 0);
        due("states", x.count(11), 2);
    }

    static void promise24OneCommand() {
        change(() -> Halls.retyped(Halls.busy(), "pass 2;"), x -> x.play(), 1);
    }

    static void promise24TheMostCommandsThereCanBe() {
        FreightSplits x = Halls.fullyLoaded();
        Halls.retyped(x, "go 0;go 1;go 2;go 3;" + "pass 1;".repeat(4) + "pass 01;".repeat(4));
        due("length of the text", x.count(12), 80);
        due("play", x.play(), 12);
        due("the time", x.count(2), 8);
        due("delivered in time", x.count(4), 8);
    }

    static void promise24ManyAreOneChange() {
        FreightSplits x = Halls.retyped(new FreightSplits(), "pass 1;pass 2;pass 3;");
        due("play", x.play(), 3);
        due("states", x.count(11), 1);
        due("the time", x.count(2), 6);
        due("undo", x.undo(), 0);
        due("the time", x.count(2), 0);
    }

    static void promise24TheHistoryIsFull() {
        FreightSplits x = Halls.retyped(Halls.fourStates(), "pass 1;pass 2;pass 3;");
        due("play", x.play(), 3);
        due("states", x.count(11), 4);
        for (int left = 3; left >= 0; left--) {
            due("undo", x.undo(), left);
            due("the time", x.count(2), left + 1);
        }
    }

    static void promise24TheTextStays() {
        FreightSplits x = Halls.retyped(new FreightSplits(), "pass 4;");
        x.play();
        due("length of the text", x.count(12), 7);
        due("play again", x.play(), 1);
        due("the time", x.count(2), 8);
    }

    static void promise24ARefusedTextStays() {
        FreightSplits x = Halls.retyped(new FreightSplits(), "pass 4;x");
        due("play", x.play(), NOT_POSSIBLE);
        due("length of the text", x.count(12), 8);
        due("the time", x.count(2), 0);
    }

    static void promise24ItIsAsTheCallsOneByOne() {
        FreightSplits played = Halls.retyped(Halls.busy(),
                "load 0 0;fill 1 2 1;offer 2 9 8 70 6;go 0;go 1;split 6 2 3;pass 4;join 8 6;");
        FreightSplits called = Halls.busy();
        called.load(0, 0);
        called.fill(1, 2, 1);
        called.offer(2, 9, 8, 70, 6);
        called.depart(0);
        called.depart(1);
        called.split(6, 2, 3);
        called.pass(4);
        called.join(8, 6);
        due("play", played.play(), 8);
        played.clearText();
        called.clearText();
        same("eight commands:", played, called);
        due("hours later", played.pass(20), called.pass(20));
        same("hours later:", played, called);
    }

    static void promise24NumbersWithNoughtsAhead() {
        FreightSplits x = Halls.retyped(Halls.busy(), "load 007 01;offer 03 009 08 070 006;pass 02;");
        due("play", x.play(), 3);
        due("the vehicle", x.consignmentOf(Halls.OTHER, 7), 1);
        due("the time", x.count(2), 5);
        isOffer(x, x.count(10) - 1, 3, 9, 8, 70, 9);
    }

    static void promise24TheGreatestNumbers() {
        FreightSplits x = Halls.retyped(new FreightSplits(), "offer 4 99 98 999 99;pass 99;");
        due("play", x.play(), 2);
        isOffer(x, 0, 4, 99, 98, 999, 99);
        due("the time", x.count(2), 99);
    }

    static void promise24HoursCountFromTheCommandOn() {
        FreightSplits x = Halls.retyped(Halls.busy(), "pass 6;offer 1 1 1 1 5;");
        due("play", x.play(), 2);
        due("the last hour", x.offerOf(x.count(10) - 1, 4), 14);
    }
}
