/** The cases of promise 8: fill, and what "Loading by a rule" says of it. */
public final class Promise08FillTest extends Cases {
    public static void main(String[] args) {
        run(Promise08FillTest.class, 8);
    }

    static void promise8VehicleLeast() {
        edge(Halls::busy, (x, vehicle) -> x.fill(vehicle, 1, 0), 0, 2, -1);
    }

    static void promise8VehicleMost() {
        edge(Halls::full, (x, vehicle) -> x.fill(vehicle, 1, 0), 3, 4, 4);
        unchanging(Halls::atTheEnd, x -> x.fill(2, 1, 0), INVALID);
    }

    static void promise8PlaceLeast() {
        edge(Halls::full, (x, place) -> x.fill(0, place, 0), 1, 4, 0);
    }

    static void promise8PlaceMost() {
        edge(Halls::full, (x, place) -> x.fill(0, place, 0), 4, 4, 5);
    }

    static void promise8RuleLeast() {
        edge(Halls::full, (x, rule) -> x.fill(0, 1, rule), 0, 4, -1);
    }

    static void promise8RuleMost() {
        edge(Halls::full, (x, rule) -> x.fill(0, 1, rule), 2, 4, 3);
    }

    static void promise8VehicleOnTheWayThere() {
        unchanging(Halls::busy, x -> x.fill(Halls.THERE, 1, 0), NOT_POSSIBLE);
    }

    static void promise8VehicleOnTheWayBack() {
        unchanging(Halls::busy, x -> x.fill(Halls.BACK, 1, 0), NOT_POSSIBLE);
    }

    static void promise8WithNothingToLoadOnTheWay() {
        unchanging(Halls::busy, x -> x.fill(Halls.THERE, 4, 0), NOT_POSSIBLE);
    }

    static void promise8TheFirstHourInWhichTheVehicleIsBack() {
        FreightSplits x = Halls.busy();
        x.pass(2);
        due("an hour ahead", x.fill(Halls.BACK, 1, 0), NOT_POSSIBLE);
        x.pass(1);
        due("back", x.fill(Halls.BACK, 1, 0), 2);
    }

    static void promise8WrongArgumentsComeAheadOfNotPossible() {
        for (int vehicle : new int[] {Halls.THERE, Halls.BACK}) {
            unchanging(Halls::busy, x -> x.fill(vehicle, 0, 0), INVALID);
            unchanging(Halls::busy, x -> x.fill(vehicle, 5, 0), INVALID);
            unchanging(Halls::busy, x -> x.fill(vehicle, 1, -1), INVALID);
            unchanging(Halls::busy, x -> x.fill(vehicle, 1, 3), INVALID);
        }
    }

    static void promise8AllArgumentsWrong() {
        unchanging(Halls::busy, x -> x.fill(-1, 0, -1), INVALID);
        unchanging(Halls::busy, x -> x.fill(Halls.NO_VEHICLE, 5, 3), INVALID);
    }

    static void promise8AnEmptyHall() {
        FreightSplits x = new FreightSplits();
        x.vehicle(20, 20);
        due("fill", x.fill(0, 1, 0), 0);
        due("it is a change", x.count(11), 2);
    }

    static void promise8NoneForThePlace() {
        change(Halls::busy, x -> x.fill(Halls.WITHOUT, 4, 1), 0);
    }

    static void promise8AFullVehicle() {
        change(Halls::fullyLoaded, x -> x.fill(0, 1, 0), 0);
        FreightSplits x = Halls.fullyLoaded();
        x.fill(0, 1, 0);
        due("its load", x.vehicleOf(0, 5), 0xf);
    }

    static void promise8AVehicleWithALoadForAnotherPlace() {
        change(Halls::busy, x -> x.fill(Halls.WITH_LOAD, 2, 0), 0);
    }

    static void promise8BesidesWhatIsInIt() {
        FreightSplits x = Halls.busy();
        due("fill", x.fill(Halls.WITH_LOAD, 1, 0), 2);
        due("its load", x.vehicleOf(Halls.WITH_LOAD, 5), 0b1000011);
        due("its room is used up", x.vehicleOf(Halls.WITH_LOAD, 3), 20);
        due("again", x.fill(Halls.WITH_LOAD, 1, 0), 0);
    }

    static void promise8AllSixteen() {
        FreightSplits x = new FreightSplits();
        x.vehicle(192, 176);
        for (int i = 0; i < 16; i++) {
            x.consign(2, 12, 11, 0, 99 - i, i);
        }
        due("fill", x.fill(0, 2, 0), 16);
        due("its load", x.vehicleOf(0, 5), 0xffff);
        due("its size", x.vehicleOf(0, 3), 192);
        due("its weight", x.vehicleOf(0, 4), 176);
    }

    static void promise8OneOverTheRoomIsLeft() {
        FreightSplits x = new FreightSplits();
        x.vehicle(191, 200);
        for (int i = 0; i < 16; i++) {
            x.consign(2, 12, 11, 0, 99 - i, i);
        }
        due("fill", x.fill(0, 2, 0), 15);
        due("the latest is left", x.vehicleOf(0, 5), 0xfffe);
    }

    static void promise8OneOverTheWeightIsLeft() {
        FreightSplits x = new FreightSplits();
        x.vehicle(200, 175);
        for (int i = 0; i < 16; i++) {
            x.consign(2, 12, 11, 0, 99 - i, i);
        }
        due("fill", x.fill(0, 2, 0), 15);
        due("the latest is left", x.vehicleOf(0, 5), 0xfffe);
    }

    static void promise8OneThatIsTooGreatIsPassedOver() {
        FreightSplits x = new FreightSplits();
        x.vehicle(10, 200);
        x.consign(1, 6, 1, 0, 1, 1);
        x.consign(1, 5, 1, 0, 2, 1);
        x.consign(1, 4, 1, 0, 3, 1);
        due("fill", x.fill(0, 1, 0), 2);
        due("its load", x.vehicleOf(0, 5), 0b101);
    }

    static void promise8SomeThatAreTooGreatArePassedOver() {
        FreightSplits x = new FreightSplits();
        x.vehicle(10, 200);
        for (int i = 0; i < 15; i++) {
            x.consign(1, 11 + i, 1, 0, 20 - i, 50 + i);
        }
        x.consign(1, 10, 1, 0, 99, 1);
        for (int rule = 0; rule <= 2; rule++) {
            due("the last by rule " + rule, x.wouldFill(0, 1, rule), 0x8000);
        }
        due("fill", x.fill(0, 1, 0), 1);
    }

    static void promise8OneThatIsTooHeavyIsPassedOver() {
        FreightSplits x = new FreightSplits();
        x.vehicle(200, 10);
        x.consign(1, 1, 11, 0, 1, 1);
        x.consign(1, 1, 10, 0, 2, 1);
        due("fill", x.fill(0, 1, 0), 1);
        due("its load", x.vehicleOf(0, 5), 0b10);
    }

    /** A vehicle that has room for one alone, so that the first by the rule is in it. */
    private static FreightSplits roomForOne(int... sizesLatestWorths) {
        FreightSplits x = new FreightSplits();
        x.vehicle(200, 50);
        for (int i = 0; i + 2 < sizesLatestWorths.length; i += 3) {
            x.consign(1, sizesLatestWorths[i], 50, 0, sizesLatestWorths[i + 1], sizesLatestWorths[i + 2]);
        }
        return x;
    }

    private static void first(FreightSplits x, int rule, int number) {
        due("fill by rule " + rule, x.fill(0, 1, rule), 1);
        due("the first by rule " + rule, x.vehicleOf(0, 5), 1 << number);
    }

    static void promise8RuleNoughtTheEarliestLatestHourFirst() {
        first(roomForOne(9, 50, 9, 1, 49, 1, 9, 51, 99), 0, 1);
        first(roomForOne(9, 0, 9, 1, 1, 99), 0, 0);
        first(roomForOne(9, 9999, 9, 1, 9998, 1), 0, 1);
    }

    static void promise8RuleOneTheGreatestWorthFirst() {
        first(roomForOne(9, 50, 98, 99, 52, 99, 1, 49, 97), 1, 1);
        first(roomForOne(9, 50, 0, 9, 50, 1), 1, 1);
        first(roomForOne(9, 50, 999, 1, 50, 998), 1, 0);
    }

    static void promise8RuleTwoTheGreatestWorthForAUnitFirst() {
        first(roomForOne(10, 50, 99, 5, 52, 50, 1, 49, 9), 2, 1);
    }

    static void promise8RuleTwoComparesWithoutDividing() {
        first(roomForOne(3, 50, 5, 4, 50, 7, 5, 50, 8), 2, 1);
        first(roomForOne(99, 50, 998, 98, 50, 988), 2, 1);
        first(roomForOne(98, 50, 988, 99, 50, 998), 2, 0);
    }

    static void promise8RuleTwoAtTheGreatestValues() {
        first(roomForOne(99, 50, 999, 1, 50, 999), 2, 1);
        first(roomForOne(99, 50, 0, 99, 50, 1), 2, 1);
    }

    static void promise8OfSameLatestHoursTheLowerNumberFirst() {
        first(roomForOne(9, 50, 1, 1, 50, 99, 1, 50, 99), 0, 0);
    }

    static void promise8OfSameWorthsTheLowerNumberFirst() {
        first(roomForOne(9, 50, 7, 1, 1, 7, 1, 1, 7), 1, 0);
        first(roomForOne(9, 50, 0, 1, 1, 0), 1, 0);
    }

    static void promise8OfSameWorthsForAUnitTheLowerNumberFirst() {
        first(roomForOne(2, 50, 4, 4, 1, 8, 1, 1, 2), 2, 0);
        first(roomForOne(99, 50, 0, 1, 1, 0), 2, 0);
    }

    static void promise8TheOrderGoesOnToTheLast() {
        FreightSplits x = new FreightSplits();
        x.vehicle(30, 30);
        int[] latest = {20, 40, 10, 30, 5};
        for (int hour : latest) {
            x.consign(1, 10, 10, 0, hour, hour);
        }
        due("the three earliest", x.wouldFill(0, 1, 0), 0b10101);
        due("the three of the greatest worth", x.wouldFill(0, 1, 1), 0b01011);
        due("fill", x.fill(0, 1, 1), 3);
        due("its load", x.vehicleOf(0, 5), 0b01011);
    }

    static void promise8OnesThatCannotBeLoadedDoNotCount() {
        FreightSplits x = Halls.busy();
        due("those in the hall for the place", x.fill(Halls.WITHOUT, 1, 1), 2);
        due("its load", x.vehicleOf(Halls.WITHOUT, 5), 1 << Halls.FREE | 1 << Halls.PART);
        due("the other vehicle's load", x.vehicleOf(Halls.WITH_LOAD, 5), 1 << Halls.LOADED);
    }

    static void promise8AtTheLastHour() {
        change(Halls::atTheEnd, x -> x.fill(0, 1, 2), 1);
    }
}
