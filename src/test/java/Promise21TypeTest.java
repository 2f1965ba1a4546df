/** The cases of promise 21: type. */
public final class Promise21TypeTest extends Cases {
    public static void main(String[] args) {
        run(Promise21TypeTest.class, 21);
    }

    private static FreightSplits ofLength(int length) {
        return Halls.typed("a".repeat(length));
    }

    private static void allowed(int character) {
        FreightSplits x = Halls.typed("pass 1;");
        due("type", x.type(character), 8);
        due("length of the text", x.count(12), 8);
    }

    static void promise21CharacterLeast() {
        allowed(32);
        unchanging(Halls::busy, x -> x.type(31), INVALID);
        unchanging(Halls::busy, x -> x.type(Integer.MIN_VALUE), INVALID);
    }

    static void promise21CharacterMost() {
        allowed(126);
        unchanging(Halls::busy, x -> x.type(127), INVALID);
        unchanging(Halls::busy, x -> x.type(Integer.MAX_VALUE), INVALID);
    }

    static void promise21CharacterOfNoughtAndBelow() {
        unchanging(Halls::busy, x -> x.type(0), INVALID);
        unchanging(Halls::busy, x -> x.type(-1), INVALID);
    }

    static void promise21CharacterThatWouldBeOneIfItWasCut() {
        unchanging(Halls::busy, x -> x.type(65536 + 'a'), INVALID);
        unchanging(Halls::busy, x -> x.type(256 + 'a'), INVALID);
        unchanging(Halls::busy, x -> x.type(-65536 + 'a'), INVALID);
    }

    static void promise21EachCharacterOfTheRange() {
        for (int character = 32; character <= 126; character++) {
            due("type(" + character + ")", new FreightSplits().type(character), 1);
        }
    }

    static void promise21AnEmptyText() {
        due("type", ofLength(0).type('a'), 1);
    }

    static void promise21TheEightiethIsTheLast() {
        due("the 80th", ofLength(79).type('a'), 80);
        unchanging(() -> ofLength(80), x -> x.type('a'), LIMIT);
        unchanging(Halls::full, x -> x.type(';'), LIMIT);
    }

    static void promise21AWrongCharacterComesAheadOfTheLimit() {
        unchanging(() -> ofLength(80), x -> x.type(31), INVALID);
        unchanging(() -> ofLength(80), x -> x.type(127), INVALID);
        unchanging(Halls::full, x -> x.type(-1), INVALID);
    }

    static void promise21ItIsNoChange() {
        FreightSplits x = Halls.fourStates();
        x.type('a');
        due("states", x.count(11), 4);
        due("undo", x.undo(), 3);
        due("the time", x.count(2), 3);
        due("length of the text", x.count(12), 1);
    }

    static void promise21RoomAgainOnceItIsCleared() {
        FreightSplits x = ofLength(80);
        x.clearText();
        due("type", x.type('a'), 1);
    }

    static void promise21CharactersAreAppendedInTheirOrder() {
        FreightSplits x = new FreightSplits();
        Expect.typed(x, "pass 12;");
        due("play", x.play(), 1);
        due("the time", x.count(2), 12);
    }
}
