/** The cases of promise 9: depart. */
public final class Promise09DepartTest extends Cases {
    public static void main(String[] args) {
        run(Promise09DepartTest.class, 9);
    }

    static void promise9VehicleLeast() {
        edge(Halls::busy, (x, vehicle) -> x.depart(vehicle), 0, 6, -1);
    }

    static void promise9VehicleMost() {
        edge(Halls::fullyLoaded, (x, vehicle) -> x.depart(vehicle), 3, 12, 4);
        unchanging(Halls::atTheEnd, x -> x.depart(2), INVALID);
    }

    static void promise9OnTheWayThere() {
        unchanging(Halls::busy, x -> x.depart(Halls.THERE), NOT_POSSIBLE);
    }

    static void promise9OnTheWayBack() {
        unchanging(Halls::busy, x -> x.depart(Halls.BACK), NOT_POSSIBLE);
    }

    static void promise9WithoutALoad() {
        unchanging(Halls::busy, x -> x.depart(Halls.WITHOUT), NOT_POSSIBLE);
    }

    static void promise9BackWithoutALoad() {
        FreightSplits x = Halls.busy();
        x.pass(3);
        due("where it is", x.vehicleOf(Halls.BACK, 2), 0);
        due("depart", x.depart(Halls.BACK), NOT_POSSIBLE);
    }

    static void promise9AllUnloadedAgain() {
        FreightSplits x = Halls.busy();
        x.unload(Halls.LOADED);
        due("depart", x.depart(Halls.WITH_LOAD), NOT_POSSIBLE);
    }

    static void promise9Twice() {
        FreightSplits x = Halls.busy();
        due("depart", x.depart(Halls.WITH_LOAD), 6);
        due("again", x.depart(Halls.WITH_LOAD), NOT_POSSIBLE);
    }

    private static FreightSplits loadedFor(int place, int hoursToTheNext) {
        FreightSplits x = new FreightSplits();
        x.vehicle(20, 20);
        x.consign(place, 5, 5, 0, 9999, 1);
        x.load(0, 0);
        x.set(0, hoursToTheNext);
        return x;
    }

    static void promise9TheNearestPlaceAndShortestWay() {
        change(() -> loadedFor(1, 1), x -> x.depart(0), 1);
    }

    static void promise9TheFarthestPlaceAndLongestWay() {
        change(() -> loadedFor(4, 24), x -> x.depart(0), 96);
    }

    static void promise9ThePlaceKIsKTimesAsFar() {
        for (int place = 1; place <= 4; place++) {
            due("depart", loadedFor(place, 3).depart(0), 3 * place);
            due("depart", loadedFor(place, 7).depart(0), 7 * place);
        }
    }

    static void promise9AtTheLastHourItArrivesBeyondIt() {
        FreightSplits x = Halls.atTheEnd();
        x.load(1, 0);
        x.set(0, 24);
        due("depart", x.depart(0), 9024);
        due("hour of arriving", x.vehicleOf(0, 7), 9024);
        due("no hour is left", x.pass(1), LIMIT);
    }

    static void promise9TheLoadIsUnderWayThen() {
        FreightSplits x = Halls.busy();
        x.load(Halls.PART, Halls.WITH_LOAD);
        x.depart(Halls.WITH_LOAD);
        due("where it is", x.vehicleOf(Halls.WITH_LOAD, 2), 1);
        due("its load", x.vehicleOf(Halls.WITH_LOAD, 5), 1 << Halls.LOADED | 1 << Halls.PART);
        due("its place", x.vehicleOf(Halls.WITH_LOAD, 6), 1);
        due("hour of arriving", x.vehicleOf(Halls.WITH_LOAD, 7), 6);
        for (int number : new int[] {Halls.LOADED, Halls.PART}) {
            due("where the freight is", x.consignmentOf(number, 6), 2);
            due("in what", x.consignmentOf(number, 7), Halls.WITH_LOAD);
            due("hour of delivery", x.consignmentOf(number, 8), NOT_FOUND);
        }
        due("in the hall", x.count(3), 1 << Halls.FREE | 1 << Halls.OTHER);
    }

    static void promise9WithAFullLoad() {
        FreightSplits x = Halls.fullyLoaded();
        for (int i = 0; i < 4; i++) {
            due("depart", x.depart(i), 3 * (i + 1));
        }
        due("nothing is in the hall", x.count(3), 0);
        due("nothing is hopeless", x.hopeless(), 0);
    }

    static void promise9WithWhatWillBeLost() {
        FreightSplits x = loadedFor(1, 3);
        x.consign(1, 5, 5, 0, 0, 1);
        x.load(1, 0);
        due("depart", x.depart(0), 3);
        due("pass", x.pass(3), 2);
        due("lost", x.count(5), 1);
    }
}
