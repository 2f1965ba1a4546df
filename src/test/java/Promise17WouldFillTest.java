/** The cases of promise 17: wouldFill. */
public final class Promise17WouldFillTest extends Cases {
    public static void main(String[] args) {
        run(Promise17WouldFillTest.class, 17);
    }

    static void promise17VehicleLeast() {
        edgeOfQuestion(Halls::busy, (x, vehicle) -> x.wouldFill(vehicle, 1, 0), 0, 0b1000001, -1);
    }

    static void promise17VehicleMost() {
        edgeOfQuestion(Halls::full, (x, vehicle) -> x.wouldFill(vehicle, 1, 0), 3, 0xf, 4);
        unchanging(Halls::atTheEnd, x -> x.wouldFill(2, 1, 0), INVALID);
    }

    static void promise17PlaceLeast() {
        edgeOfQuestion(Halls::full, (x, place) -> x.wouldFill(0, place, 0), 1, 0xf, 0);
    }

    static void promise17PlaceMost() {
        edgeOfQuestion(Halls::full, (x, place) -> x.wouldFill(0, place, 0), 4, 0xf000, 5);
    }

    static void promise17RuleLeast() {
        edgeOfQuestion(Halls::full, (x, rule) -> x.wouldFill(0, 1, rule), 0, 0xf, -1);
    }

    static void promise17RuleMost() {
        edgeOfQuestion(Halls::full, (x, rule) -> x.wouldFill(0, 1, rule), 2, 0xf, 3);
    }

    static void promise17VehicleOnTheWayThere() {
        unchanging(Halls::busy, x -> x.wouldFill(Halls.THERE, 1, 0), NOT_POSSIBLE);
    }

    static void promise17VehicleOnTheWayBack() {
        unchanging(Halls::busy, x -> x.wouldFill(Halls.BACK, 1, 0), NOT_POSSIBLE);
    }

    static void promise17TheFirstHourInWhichTheVehicleIsBack() {
        FreightSplits x = Halls.busy();
        x.pass(2);
        due("an hour ahead", x.wouldFill(Halls.BACK, 1, 0), NOT_POSSIBLE);
        x.pass(1);
        due("back", x.wouldFill(Halls.BACK, 1, 0), 0b1000001);
    }

    static void promise17WrongArgumentsComeAheadOfNotPossible() {
        for (int vehicle : new int[] {Halls.THERE, Halls.BACK}) {
            unchanging(Halls::busy, x -> x.wouldFill(vehicle, 0, 0), INVALID);
            unchanging(Halls::busy, x -> x.wouldFill(vehicle, 5, 0), INVALID);
            unchanging(Halls::busy, x -> x.wouldFill(vehicle, 1, -1), INVALID);
            unchanging(Halls::busy, x -> x.wouldFill(vehicle, 1, 3), INVALID);
        }
    }

    static void promise17AllArgumentsWrong() {
        unchanging(Halls::busy, x -> x.wouldFill(-1, 0, -1), INVALID);
        unchanging(Halls::busy, x -> x.wouldFill(Halls.NO_VEHICLE, 5, 3), INVALID);
    }

    static void promise17AnEmptyHall() {
        FreightSplits x = new FreightSplits();
        x.vehicle(20, 20);
        due("wouldFill", x.wouldFill(0, 1, 0), 0);
    }

    static void promise17NoneForThePlace() {
        unchanging(Halls::busy, x -> x.wouldFill(Halls.WITHOUT, 4, 0), 0);
    }

    static void promise17AFullVehicle() {
        unchanging(Halls::fullyLoaded, x -> x.wouldFill(0, 1, 0), 0);
    }

    static void promise17AVehicleWithALoadForAnotherPlace() {
        unchanging(Halls::busy, x -> x.wouldFill(Halls.WITH_LOAD, 2, 0), 0);
    }

    static void promise17WhatIsInItAlreadyIsNotOfTheSet() {
        unchanging(Halls::busy, x -> x.wouldFill(Halls.WITH_LOAD, 1, 2), 0b1000001);
    }

    static void promise17AllSixteen() {
        FreightSplits x = new FreightSplits();
        x.vehicle(16, 16);
        for (int i = 0; i < 16; i++) {
            x.consign(2, 1, 1, 0, 99, 5);
        }
        for (int rule = 0; rule <= 2; rule++) {
            due("wouldFill", x.wouldFill(0, 2, rule), 0xffff);
        }
        x.vehicle(15, 16);
        x.vehicle(16, 15);
        due("one too many for the room", x.wouldFill(1, 2, 0), 0x7fff);
        due("one too many for the bound", x.wouldFill(2, 2, 0), 0x7fff);
    }

    static void promise17ItIsWhatFillLoads() {
        for (int vehicle = 0; vehicle <= 1; vehicle++) {
            for (int place = 1; place <= 4; place++) {
                for (int rule = 0; rule <= 2; rule++) {
                    FreightSplits x = Halls.busy();
                    int before = x.vehicleOf(vehicle, 5);
                    int would = x.wouldFill(vehicle, place, rule);
                    due("fill", x.fill(vehicle, place, rule), Integer.bitCount(would));
                    due("the load", x.vehicleOf(vehicle, 5), before | would);
                }
            }
        }
    }

    static void promise17EachRuleHasItsOrder() {
        FreightSplits x = new FreightSplits();
        x.vehicle(10, 10);
        x.consign(1, 10, 10, 0, 5, 1);
        x.consign(1, 10, 10, 0, 9, 99);
        x.consign(1, 1, 10, 0, 9, 98);
        due("the earliest", x.wouldFill(0, 1, 0), 0b001);
        due("the greatest worth", x.wouldFill(0, 1, 1), 0b010);
        due("the greatest worth for a unit", x.wouldFill(0, 1, 2), 0b100);
    }
}
