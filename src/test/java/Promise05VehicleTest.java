/** The cases of promise 5: vehicle. */
public final class Promise05VehicleTest extends Cases {
    public static void main(String[] args) {
        run(Promise05VehicleTest.class, 5);
    }

    private static FreightSplits with(int vehicles) {
        FreightSplits x = new FreightSplits();
        Halls.addVehicles(x, vehicles, 7, 8);
        return x;
    }

    static void promise5RoomLeast() {
        edge(Halls::empty, (x, room) -> x.vehicle(room, 5), 1, 0, 0);
    }

    static void promise5RoomMost() {
        edge(Halls::empty, (x, room) -> x.vehicle(room, 5), 200, 0, 201);
    }

    static void promise5WeightLeast() {
        edge(Halls::empty, (x, weight) -> x.vehicle(5, weight), 1, 0, 0);
    }

    static void promise5WeightMost() {
        edge(Halls::empty, (x, weight) -> x.vehicle(5, weight), 200, 0, 201);
    }

    static void promise5BothWrong() {
        unchanging(Halls::empty, x -> x.vehicle(0, 0), INVALID);
        unchanging(Halls::empty, x -> x.vehicle(201, 201), INVALID);
        unchanging(Halls::empty, x -> x.vehicle(0, 201), INVALID);
    }

    static void promise5NumbersGoUpFromNought() {
        FreightSplits x = new FreightSplits();
        for (int i = 0; i < 4; i++) {
            due("none as yet", x.vehicleOf(i, 0), INVALID);
            due("vehicle", x.vehicle(10 + i, 20 + i), i);
            due("vehicles", x.count(1), i + 1);
        }
    }

    static void promise5TheFourthIsTheLast() {
        change(() -> with(3), x -> x.vehicle(5, 5), 3);
        unchanging(() -> with(4), x -> x.vehicle(5, 5), LIMIT);
        unchanging(Halls::busy, x -> x.vehicle(5, 5), LIMIT);
    }

    static void promise5WrongArgumentsComeAheadOfTheLimit() {
        unchanging(Halls::full, x -> x.vehicle(0, 5), INVALID);
        unchanging(Halls::full, x -> x.vehicle(201, 5), INVALID);
        unchanging(Halls::full, x -> x.vehicle(5, 0), INVALID);
        unchanging(Halls::full, x -> x.vehicle(5, 201), INVALID);
    }

    private static void isNew(FreightSplits x, int number, int room, int weight) {
        isVehicle(x, number, room, weight, 0, 0, 0, 0, NOT_FOUND, NOT_FOUND, 0, 0);
    }

    static void promise5ItIsInTheHallWithoutALoad() {
        FreightSplits x = new FreightSplits();
        x.vehicle(1, 200);
        x.vehicle(200, 1);
        isNew(x, 0, 1, 200);
        isNew(x, 1, 200, 1);
    }

    static void promise5BesideOthersThatAreUnderWay() {
        FreightSplits x = with(3);
        for (int i = 0; i < 3; i++) {
            x.consign(1, 5, 5, 0, 9, 3);
            x.load(i, i);
            x.depart(i);
        }
        x.pass(4);
        due("vehicle", x.vehicle(3, 4), 3);
        isNew(x, 3, 3, 4);
    }

    static void promise5AtTheLastHour() {
        FreightSplits x = Halls.atTheEnd();
        due("vehicle", x.vehicle(3, 4), 2);
        isNew(x, 2, 3, 4);
    }

    static void promise5UndoGivesTheNumberBack() {
        FreightSplits x = with(4);
        x.consign(1, 5, 5, 0, 9, 3);
        x.load(0, 3);
        x.undo();
        x.undo();
        due("undo", x.undo(), 1);
        due("none", x.vehicleOf(3, 0), INVALID);
        due("vehicle", x.vehicle(9, 9), 3);
        isNew(x, 3, 9, 9);
    }

    static void promise5UndoneAfterATripItIsNewAgain() {
        FreightSplits x = with(0);
        x.consign(1, 5, 5, 0, 9, 3);
        x.vehicle(9, 9);
        x.offer(1, 1, 1, 50, 9);
        Expect.typed(x, "load 0 0;go 0;pass 4;");
        due("play", x.play(), 3);
        due("on the way back", x.vehicleOf(0, 8), 50);
        x.undo();
        x.undo();
        x.undo();
        due("vehicle", x.vehicle(8, 7), 0);
        isNew(x, 0, 8, 7);
    }
}
