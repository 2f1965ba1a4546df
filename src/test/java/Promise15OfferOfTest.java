/** The cases of promise 15: offerOf. */
public final class Promise15OfferOfTest extends Cases {
    public static void main(String[] args) {
        run(Promise15OfferOfTest.class, 15);
    }

    static void promise15IndexLeast() {
        edgeOfQuestion(Halls::busy, (x, index) -> x.offerOf(index, 3), 0, 30, -1);
    }

    static void promise15WhatLeast() {
        edgeOfQuestion(Halls::busy, (x, what) -> x.offerOf(1, what), 0, 2, -1);
    }

    static void promise15WhatMost() {
        edgeOfQuestion(Halls::busy, (x, what) -> x.offerOf(1, what), 4, 4, 5);
    }

    static void promise15AnEmptyList() {
        unchanging(Halls::empty, x -> x.offerOf(0, 0), NOT_FOUND);
        unchanging(Halls::empty, x -> x.offerOf(Integer.MAX_VALUE, 4), NOT_FOUND);
    }

    static void promise15TheLastOfferAndTheNext() {
        unchanging(Halls::busy, x -> x.offerOf(1, 3), 20);
        unchanging(Halls::busy, x -> x.offerOf(2, 3), NOT_FOUND);
    }

    static void promise15AFullList() {
        unchanging(Halls::full, x -> x.offerOf(9, 3), 109);
        unchanging(Halls::full, x -> x.offerOf(10, 3), NOT_FOUND);
        unchanging(Halls::full, x -> x.offerOf(11, 3), NOT_FOUND);
        unchanging(Halls::full, x -> x.offerOf(Integer.MAX_VALUE, 3), NOT_FOUND);
    }

    static void promise15AWrongWhatComesAheadOfNotFound() {
        unchanging(Halls::empty, x -> x.offerOf(0, 5), INVALID);
        unchanging(Halls::empty, x -> x.offerOf(0, -1), INVALID);
        unchanging(Halls::full, x -> x.offerOf(10, 5), INVALID);
        unchanging(Halls::full, x -> x.offerOf(10, -1), INVALID);
    }

    static void promise15AWrongIndexInAnEmptyList() {
        unchanging(Halls::empty, x -> x.offerOf(-1, 0), INVALID);
    }

    static void promise15BothWrong() {
        unchanging(Halls::busy, x -> x.offerOf(-1, -1), INVALID);
        unchanging(Halls::busy, x -> x.offerOf(-1, 5), INVALID);
    }

    static void promise15InTheOrderInWhichTheyWereMade() {
        FreightSplits x = new FreightSplits();
        for (int i = 0; i < 10; i++) {
            x.offer(1 + i % 4, 99 - i, 50 + i, 5 * i, 10 + i);
        }
        for (int i = 0; i < 10; i++) {
            isOffer(x, i, 1 + i % 4, 99 - i, 50 + i, 5 * i, 10 + i);
        }
    }

    private static void pricesAre(FreightSplits x, int... prices) {
        due("offers", x.count(10), prices.length);
        for (int i = 0; i < prices.length; i++) {
            due("offerOf(" + i + ", 3)", x.offerOf(i, 3), prices[i]);
        }
        due("the next", x.offerOf(prices.length, 3), NOT_FOUND);
    }

    private static FreightSplits held(int... hours) {
        FreightSplits x = new FreightSplits();
        for (int i = 0; i < hours.length; i++) {
            x.offer(1, 5, 5, 10 * (i + 1), hours[i]);
        }
        return x;
    }

    static void promise15TheFirstOneIsGone() {
        FreightSplits x = held(0, 5, 5);
        x.pass(1);
        pricesAre(x, 20, 30);
    }

    static void promise15OneBetweenIsGone() {
        FreightSplits x = held(5, 0, 5);
        x.pass(1);
        pricesAre(x, 10, 30);
    }

    static void promise15TheLastOneIsGone() {
        FreightSplits x = held(5, 5, 0);
        x.pass(1);
        pricesAre(x, 10, 20);
    }

    static void promise15AllAreGone() {
        FreightSplits x = held(0, 0, 0);
        x.pass(1);
        pricesAre(x);
    }

    static void promise15SomeOfAFullListAreGone() {
        FreightSplits x = held(0, 5, 0, 0, 5, 5, 0, 5, 0, 0);
        x.pass(1);
        pricesAre(x, 20, 50, 60, 80);
    }

    static void promise15ANewOneIsTheLast() {
        FreightSplits x = held(0, 5, 5);
        x.pass(1);
        x.offer(1, 5, 5, 7, 0);
        pricesAre(x, 20, 30, 7);
    }

    static void promise15TakenOnesAreGone() {
        FreightSplits x = held(9, 9, 9, 9);
        x.vehicle(10, 10);
        x.consign(1, 5, 5, 0, 9, 1);
        x.load(0, 0);
        x.depart(0);
        x.pass(3);
        pricesAre(x, 10, 20);
    }

    static void promise15TheLastHourCountsFromTheHourOfTheOffer() {
        FreightSplits x = Halls.busy();
        due("made at 3 for 50", x.offerOf(0, 4), 53);
        x.pass(1);
        due("an hour later", x.offerOf(0, 4), 53);
    }
}
