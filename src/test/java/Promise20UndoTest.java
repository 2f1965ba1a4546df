/** The cases of promise 20: undo, and what "Changes and errors" says of the history. */
public final class Promise20UndoTest extends Cases {
    public static void main(String[] args) {
        run(Promise20UndoTest.class, 20);
    }

    static void promise20AnEmptyHistory() {
        unchanging(Halls::empty, x -> x.undo(), NOT_POSSIBLE);
    }

    static void promise20AHistoryThatIsEmptyAgain() {
        FreightSplits x = new FreightSplits();
        x.consign(1, 5, 5, 0, 9, 1);
        due("undo", x.undo(), 0);
        due("again", x.undo(), NOT_POSSIBLE);
        same("nothing is left:", x, new FreightSplits());
    }

    static void promise20OneState() {
        FreightSplits x = new FreightSplits();
        x.pass(1);
        due("states", x.count(11), 1);
        due("undo", x.undo(), 0);
        due("states", x.count(11), 0);
        due("the time", x.count(2), 0);
    }

    static void promise20FourStates() {
        FreightSplits x = Halls.fourStates();
        due("states", x.count(11), 4);
        for (int left = 3; left >= 0; left--) {
            due("undo", x.undo(), left);
            due("the time", x.count(2), left);
            due("states", x.count(11), left);
        }
        due("a fifth time", x.undo(), NOT_POSSIBLE);
        due("the time", x.count(2), 0);
    }

    static void promise20AFifthStateDropsTheOldest() {
        FreightSplits x = Halls.fourStates();
        x.pass(1);
        due("states", x.count(11), 4);
        for (int left = 3; left >= 0; left--) {
            due("undo", x.undo(), left);
            due("the time", x.count(2), left + 1);
        }
        due("a fifth time", x.undo(), NOT_POSSIBLE);
        due("the time", x.count(2), 1);
    }

    static void promise20ManyMoreChanges() {
        for (int changes = 6; changes <= 20; changes++) {
            FreightSplits x = Halls.fourStates();
            for (int i = 4; i < changes; i++) {
                x.pass(1);
            }
            for (int left = 3; left >= 0; left--) {
                due("undo", x.undo(), left);
                due("the time", x.count(2), changes - 4 + left);
            }
            due("a fifth time", x.undo(), NOT_POSSIBLE);
        }
    }

    static void promise20ChangesAfterUndo() {
        FreightSplits x = Halls.fourStates();
        x.undo();
        x.undo();
        x.set(0, 9);
        due("states", x.count(11), 3);
        due("undo", x.undo(), 2);
        due("the time", x.count(2), 2);
        due("the way", x.count(20), 3);
        due("undo", x.undo(), 1);
        due("the time", x.count(2), 1);
    }

    static void promise20UndoIsNoChange() {
        FreightSplits x = Halls.fourStates();
        x.undo();
        due("states", x.count(11), 3);
        due("undo does not undo undo", x.undo(), 2);
        due("the time", x.count(2), 2);
    }

    static void promise20UndoOfConsign() {
        change(Halls::busy, x -> x.consign(1, 5, 5, 0, 9, 1), 8);
    }

    static void promise20UndoOfVehicle() {
        change(Halls::atTheEnd, x -> x.vehicle(5, 5), 2);
    }

    static void promise20UndoOfSplit() {
        change(Halls::busy, x -> x.split(Halls.OTHER, 4, 4), 8);
    }

    static void promise20UndoOfJoin() {
        change(Halls::busy, x -> x.join(Halls.PART, Halls.FREE), Halls.FREE);
    }

    static void promise20UndoOfLoad() {
        change(Halls::busy, x -> x.load(Halls.OTHER, Halls.WITHOUT), 11);
    }

    static void promise20UndoOfUnload() {
        change(Halls::busy, x -> x.unload(Halls.LOADED), Halls.WITH_LOAD);
    }

    static void promise20UndoOfFill() {
        change(Halls::busy, x -> x.fill(Halls.WITHOUT, 1, 1), 2);
    }

    static void promise20UndoOfFillThatLoadsNone() {
        change(Halls::busy, x -> x.fill(Halls.WITHOUT, 3, 1), 0);
    }

    static void promise20UndoOfDepart() {
        change(Halls::busy, x -> x.depart(Halls.WITH_LOAD), 6);
    }

    static void promise20UndoOfOffer() {
        change(Halls::busy, x -> x.offer(1, 5, 5, 5, 5), 3);
    }

    static void promise20UndoOfPass() {
        for (int hours = 1; hours <= 99; hours += 7) {
            int past = hours;
            change(Halls::busy, x -> x.pass(past), hours < 2 ? 0 : 1);
        }
    }

    static void promise20UndoOfSet() {
        change(Halls::busy, x -> x.set(0, 24), 3);
        change(Halls::busy, x -> x.set(1, 99), 8);
        change(Halls::busy, x -> x.set(2, 20), 2);
    }

    static void promise20UndoOfPlay() {
        change(Halls::busy, x -> x.play(), 2);
    }

    static void promise20UndoOfPlayOfNothing() {
        change(Halls::fourStates, x -> x.play(), 0);
    }

    static void promise20WhatIsNoChangeIsNotRecorded() {
        FreightSplits x = Halls.busy();
        x.undo();
        x.type('a');
        x.clearText();
        x.hopeless();
        x.wouldFill(Halls.WITHOUT, 1, 0);
        x.wouldEarn(Halls.WITH_LOAD);
        x.fault(0);
        x.count(0);
        x.consignmentOf(0, 0);
        x.vehicleOf(0, 0);
        x.offerOf(0, 0);
        due("states", x.count(11), 3);
    }

    static void promise20TheTextIsNotRestored() {
        FreightSplits x = new FreightSplits();
        Expect.typed(x, "pass");
        x.pass(1);
        Expect.typed(x, " 7;");
        due("undo", x.undo(), 0);
        due("length of the text", x.count(12), 7);
        due("play", x.play(), 1);
        due("the time", x.count(2), 7);
        x.clearText();
        x.undo();
        due("length of the text", x.count(12), 0);
    }

    static void promise20EverythingElseIsRestored() {
        FreightSplits x = Halls.busy();
        x.pass(99);
        x.set(0, 7);
        x.consign(4, 9, 9, 9, 9, 9);
        x.fill(Halls.BACK, 1, 0);
        for (int left = 3; left >= 0; left--) {
            due("undo", x.undo(), left);
        }
        String difference = State.of(x).withoutStates()
                .differenceTo(State.of(Halls.busy()).withoutStates());
        holds("the state before four changes: " + difference, difference.isEmpty());
    }

    static void promise20ARestoredStateGoesOnAsItDid() {
        FreightSplits x = Halls.busy();
        x.pass(50);
        x.undo();
        x.pass(1);
        x.undo();
        FreightSplits y = Halls.busy();
        due("pass", x.pass(3), y.pass(3));
        String difference = State.of(x).withoutStates().differenceTo(State.of(y).withoutStates());
        holds("three hours on: " + difference, difference.isEmpty());
    }

    static void promise20AFullHall() {
        change(Halls::full, x -> x.fill(0, 4, 1), 4);
        change(Halls::fullyLoaded, x -> x.depart(3), 12);
        change(Halls::fullyLoaded, x -> x.play(), 11);
    }

    static void promise20RefusedCallsAreNotRecorded() {
        FreightSplits x = new FreightSplits();
        x.consign(0, 5, 5, 0, 9, 1);
        x.split(0, 1, 1);
        x.join(0, 1);
        x.vehicle(0, 1);
        x.load(0, 0);
        x.unload(0);
        x.fill(0, 1, 0);
        x.depart(0);
        x.offer(0, 1, 1, 1, 1);
        x.pass(0);
        x.set(0, 0);
        x.type('x');
        x.play();
        due("states", x.count(11), 0);
        due("undo", x.undo(), NOT_POSSIBLE);
    }
}
