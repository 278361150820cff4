import java.util.NoSuchElementException;

/** Promises 16 to 33: bids and offers. */
public final class OrdersTest {
    private static final Class<IndexOutOfBoundsException> OUT = IndexOutOfBoundsException.class;
    private static final Class<IllegalArgumentException> ILLEGAL = IllegalArgumentException.class;
    private static final Class<NoSuchElementException> NONE = NoSuchElementException.class;

    private OrdersTest() {
    }

    public static void main(String[] args) {
        placeBid();
        bidLimit();
        noPlaceForBid();
        tooPoor();
        placeOffer();
        cancelBid();
        cancelOffer();
        orderOfBids();
        orderOfOffers();
        lookAtBids();
        lookAtOffers();
        matching();
        noMatch();
        spread();
        Check.end("OrdersTest", 16, 33);
    }

    private static BarnacleExchange twoShips() {
        BarnacleExchange x = new BarnacleExchange();
        x.addShip(99, 5);
        x.addShip(99, 5);
        return x;
    }

    private static void placeBid() {
        BarnacleExchange x = twoShips();
        Check.is(16, "least values", 0, () -> x.placeBid(0, 1, 1));
        Check.is(16, "greatest values", 1, () -> x.placeBid(1, 9, 99));
        Check.is(16, "a place is reserved", 4, () -> x.freePlaces(1));
        Check.is(16, "the price is reserved", 99, () -> x.reservedCoins(1));
        Check.fails(16, "ship -1", OUT, () -> x.placeBid(-1, 1, 1));
        Check.fails(16, "ship 2", OUT, () -> x.placeBid(2, 1, 1));
        Check.fails(16, "ship 2 and a wrong grade", OUT, () -> x.placeBid(2, 0, 1));
        Check.fails(16, "grade 0", ILLEGAL, () -> x.placeBid(0, 0, 1));
        Check.fails(16, "grade 10", ILLEGAL, () -> x.placeBid(0, 10, 1));
        Check.fails(16, "price 0", ILLEGAL, () -> x.placeBid(0, 1, 0));
        Check.fails(16, "price 100", ILLEGAL, () -> x.placeBid(0, 1, 100));
        Check.fails(16, "price 100 of a poor ship", ILLEGAL, () -> x.placeBid(1, 1, 100));
        Check.fails(16, "no rejection yet", NONE, x::rejectionReason);
        Check.is(16, "the next id", 2, () -> x.placeBid(0, 1, 1));
        Check.is(16, "bids", 3, x::bidCount);
        x.cancelBid(2);
        Check.is(16, "an id is given once", 3, () -> x.placeBid(0, 1, 1));
    }

    private static void bidLimit() {
        BarnacleExchange x = twoShips();
        x.addShip(0, 1);
        for (int i = 0; i < 9; i++) {
            x.placeBid(i / 5, 1, i == 3 ? 1 : 5 + i);
        }
        Check.is(16, "the tenth bid", 9, () -> x.placeBid(1, 1, 20));
        Check.rejects(16, "no place left too", x, BarnacleExchange.BID_LIMIT, 3, () -> x.placeBid(0, 1, 1));
        Check.rejects(16, "no coins too", x, BarnacleExchange.BID_LIMIT, 3, () -> x.placeBid(2, 1, 1));
        Check.fails(16, "a wrong price", ILLEGAL, () -> x.placeBid(2, 1, 0));
        x.cancelBid(3);
        x.placeBid(0, 1, 5);
        Check.rejects(16, "the later one of two last", x, BarnacleExchange.BID_LIMIT, 10, () -> x.placeBid(2, 1, 1));
    }

    private static void noPlaceForBid() {
        BarnacleExchange x = new BarnacleExchange();
        x.addShip(20, 2);
        x.addBarnacle(0, 1);
        x.placeBid(0, 1, 20);
        Check.rejects(16, "too poor as well", x, BarnacleExchange.NO_PLACE, 2, () -> x.placeBid(0, 1, 1));
        Check.is(16, "bids", 1, x::bidCount);
    }

    private static void tooPoor() {
        BarnacleExchange x = new BarnacleExchange();
        x.addShip(30, 5);
        x.placeBid(0, 1, 12);
        Check.rejects(16, "one coin short", x, BarnacleExchange.TOO_POOR, 18, () -> x.placeBid(0, 1, 19));
        Check.is(16, "all that is left", 1, () -> x.placeBid(0, 1, 18));
        Check.rejects(16, "no coins left", x, BarnacleExchange.TOO_POOR, 0, () -> x.placeBid(0, 1, 1));
        Check.is(16, "reserved", 30, () -> x.reservedCoins(0));
    }

    private static void placeOffer() {
        BarnacleExchange x = twoShips();
        Check.fails(17, "no barnacles", OUT, () -> x.placeOffer(0, 1));
        x.addBarnacle(0, 1);
        x.addBarnacle(1, 1);
        x.addBarnacle(1, 1);
        Check.is(17, "least price", 0, () -> x.placeOffer(2, 1));
        Check.is(17, "greatest price", 1, () -> x.placeOffer(0, 99));
        Check.fails(17, "barnacle -1", OUT, () -> x.placeOffer(-1, 1));
        Check.fails(17, "barnacle 3", OUT, () -> x.placeOffer(3, 1));
        Check.fails(17, "barnacle 3 and a wrong price", OUT, () -> x.placeOffer(3, 0));
        Check.fails(17, "price 0", ILLEGAL, () -> x.placeOffer(1, 0));
        Check.fails(17, "price 100", ILLEGAL, () -> x.placeOffer(1, 100));
        Check.fails(17, "price 100 of an offered one", ILLEGAL, () -> x.placeOffer(0, 100));
        Check.fails(17, "no rejection yet", NONE, x::rejectionReason);
        Check.rejects(17, "offered", x, BarnacleExchange.OFFERED, 1, () -> x.placeOffer(0, 5));
        Check.rejects(17, "offered first", x, BarnacleExchange.OFFERED, 0, () -> x.placeOffer(2, 5));
        Check.is(17, "the next id", 2, () -> x.placeOffer(1, 7));
        x.cancelOffer(1);
        Check.is(17, "offered again", 3, () -> x.placeOffer(0, 5));
        Check.is(17, "bids have their own ids", 0, () -> x.placeBid(0, 1, 5));
        BarnacleExchange full = new BarnacleExchange();
        for (int barnacle = 0; barnacle < 16; barnacle++) {
            if (barnacle % 5 == 0) {
                full.addShip(1, 5);
            }
            full.addBarnacle(barnacle / 5, 1 + barnacle % 9);
            int number = barnacle;
            Check.is(17, "all are offered", number, () -> full.placeOffer(number, 1 + number % 4));
        }
        Check.is(21, "all are offered", 16, full::offerCount);
    }

    private static void cancelBid() {
        BarnacleExchange x = twoShips();
        Check.fails(18, "no bids", NONE, () -> x.cancelBid(0));
        x.placeBid(0, 1, 10);
        x.placeBid(0, 1, 20);
        x.placeBid(1, 1, 30);
        Check.fails(18, "id -1", NONE, () -> x.cancelBid(-1));
        Check.fails(18, "id 3", NONE, () -> x.cancelBid(3));
        Check.is(18, "two are left", 2, () -> x.cancelBid(1));
        Check.fails(18, "cancelled already", NONE, () -> x.cancelBid(1));
        Check.is(18, "coins are free", 10, () -> x.reservedCoins(0));
        Check.is(18, "the place is free", 4, () -> x.freePlaces(0));
        Check.is(18, "first of the others", 2, () -> x.bidAt(0));
        Check.is(18, "second of the others", 0, () -> x.bidAt(1));
        Check.is(18, "one is left", 1, () -> x.cancelBid(2));
        Check.is(18, "none is left", 0, () -> x.cancelBid(0));
    }

    private static void cancelOffer() {
        BarnacleExchange x = twoShips();
        x.addBarnacle(0, 4);
        x.addBarnacle(0, 4);
        Check.fails(19, "no offers", NONE, () -> x.cancelOffer(0));
        x.placeOffer(0, 10);
        x.placeOffer(1, 10);
        Check.fails(19, "id -1", NONE, () -> x.cancelOffer(-1));
        Check.fails(19, "id 2", NONE, () -> x.cancelOffer(2));
        Check.is(19, "one is left", 1, () -> x.cancelOffer(0));
        Check.fails(19, "cancelled already", NONE, () -> x.cancelOffer(0));
        Check.is(19, "no longer offered", false, () -> x.isOffered(0));
        Check.is(19, "still offered", true, () -> x.isOffered(1));
        Check.is(19, "none is left", 0, () -> x.cancelOffer(1));
    }

    private static void orderOfBids() {
        BarnacleExchange x = twoShips();
        Check.is(20, "no bids", 0, x::bidCount);
        Check.fails(22, "no bids", NONE, () -> x.bidAt(0));
        int[] prices = {10, 30, 10, 20, 30, 5};
        for (int i = 0; i < prices.length; i++) {
            x.placeBid(i % 2, 9 - i, prices[i]);
        }
        Check.is(20, "six bids", 6, x::bidCount);
        int[] due = {1, 4, 3, 0, 2, 5};
        for (int position = 0; position < due.length; position++) {
            int at = position;
            Check.is(22, "position " + at, due[at], () -> x.bidAt(at));
        }
        Check.fails(22, "position -1", NONE, () -> x.bidAt(-1));
        Check.fails(22, "position 6 of 6", NONE, () -> x.bidAt(6));
        Check.fails(22, "position far out", NONE, () -> x.bidAt(Integer.MAX_VALUE));
        x.cancelBid(1);
        Check.is(20, "five bids", 5, x::bidCount);
        Check.is(22, "the first one now", 4, () -> x.bidAt(0));
        Check.fails(22, "position 5 of 5", NONE, () -> x.bidAt(5));
    }

    private static void orderOfOffers() {
        BarnacleExchange x = twoShips();
        Check.is(21, "no offers", 0, x::offerCount);
        Check.fails(23, "no offers", NONE, () -> x.offerAt(0));
        int[] grades = {3, 8, 3, 9, 8, 1};
        int[] prices = {10, 10, 10, 20, 10, 5};
        for (int i = 0; i < grades.length; i++) {
            x.addBarnacle(i % 2, grades[i]);
        }
        // The ids run against the indexes of the barnacles.
        for (int i = grades.length - 1; i >= 0; i--) {
            x.placeOffer(i, prices[i]);
        }
        Check.is(21, "six offers", 6, x::offerCount);
        // Barnacles 5; 4 and 1; 2 and 0; 3.
        int[] due = {0, 1, 4, 3, 5, 2};
        for (int position = 0; position < due.length; position++) {
            int at = position;
            Check.is(23, "position " + at, due[at], () -> x.offerAt(at));
        }
        Check.fails(23, "position -1", NONE, () -> x.offerAt(-1));
        Check.fails(23, "position 6 of 6", NONE, () -> x.offerAt(6));
        x.cancelOffer(0);
        Check.is(21, "five offers", 5, x::offerCount);
        Check.is(23, "the first one now", 1, () -> x.offerAt(0));
        Check.fails(23, "position 5 of 5", NONE, () -> x.offerAt(5));
    }

    private static void lookAtBids() {
        BarnacleExchange x = twoShips();
        x.placeBid(1, 7, 30);
        x.placeBid(0, 2, 40);
        Check.is(24, "ship", 1, () -> x.shipOfBid(0));
        Check.is(24, "ship of the second", 0, () -> x.shipOfBid(1));
        Check.is(25, "grade", 7, () -> x.gradeOfBid(0));
        Check.is(25, "grade of the second", 2, () -> x.gradeOfBid(1));
        Check.is(26, "price", 30, () -> x.priceOfBid(0));
        Check.is(26, "price of the second", 40, () -> x.priceOfBid(1));
        Check.is(27, "new", 0, () -> x.ageOfBid(0));
        x.passTide();
        x.placeBid(0, 2, 1);
        Check.is(27, "a tide", 1, () -> x.ageOfBid(0));
        Check.is(27, "new after a tide", 0, () -> x.ageOfBid(2));
        x.passTide();
        Check.is(27, "two tides", 2, () -> x.ageOfBid(1));
        Check.is(27, "a tide for the later one", 1, () -> x.ageOfBid(2));
        x.cancelBid(1);
        for (int bid : new int[] {-1, 1, 3, Integer.MIN_VALUE, Integer.MAX_VALUE}) {
            Check.fails(24, "bid " + bid, NONE, () -> x.shipOfBid(bid));
            Check.fails(25, "bid " + bid, NONE, () -> x.gradeOfBid(bid));
            Check.fails(26, "bid " + bid, NONE, () -> x.priceOfBid(bid));
            Check.fails(27, "bid " + bid, NONE, () -> x.ageOfBid(bid));
        }
        x.passTide();
        Check.fails(27, "expired", NONE, () -> x.ageOfBid(0));
        Check.is(27, "not expired", 2, () -> x.ageOfBid(2));
    }

    private static void lookAtOffers() {
        BarnacleExchange x = twoShips();
        x.addBarnacle(0, 5);
        x.addBarnacle(1, 6);
        x.addBarnacle(1, 7);
        x.placeOffer(2, 33);
        x.placeOffer(0, 22);
        Check.is(28, "barnacle", 2, () -> x.barnacleOfOffer(0));
        Check.is(28, "barnacle of the second", 0, () -> x.barnacleOfOffer(1));
        Check.is(29, "price", 33, () -> x.priceOfOffer(0));
        Check.is(29, "price of the second", 22, () -> x.priceOfOffer(1));
        Check.is(30, "new", 0, () -> x.ageOfOffer(0));
        x.passTide();
        x.placeOffer(1, 1);
        Check.is(30, "a tide", 1, () -> x.ageOfOffer(0));
        Check.is(30, "new after a tide", 0, () -> x.ageOfOffer(2));
        x.passTide();
        Check.is(30, "two tides", 2, () -> x.ageOfOffer(1));
        x.cancelOffer(1);
        for (int offer : new int[] {-1, 1, 3, Integer.MIN_VALUE, Integer.MAX_VALUE}) {
            Check.fails(28, "offer " + offer, NONE, () -> x.barnacleOfOffer(offer));
            Check.fails(29, "offer " + offer, NONE, () -> x.priceOfOffer(offer));
            Check.fails(30, "offer " + offer, NONE, () -> x.ageOfOffer(offer));
        }
        x.passTide();
        Check.fails(30, "expired", NONE, () -> x.ageOfOffer(0));
        Check.is(30, "not expired", 2, () -> x.ageOfOffer(2));
    }

    private static void matching() {
        BarnacleExchange x = twoShips();
        x.addShip(99, 5);
        x.addBarnacle(0, 2);
        x.addBarnacle(0, 6);
        x.addBarnacle(1, 6);
        x.addBarnacle(0, 8);
        x.placeOffer(3, 30);
        x.placeOffer(2, 20);
        x.placeOffer(1, 20);
        x.placeOffer(0, 10);
        // Its own barnacle 2 does not fit, though its offer has the lower id.
        bothMatch(x, x.placeBid(1, 5, 50), 2, "own barnacles");
        bothMatch(x, x.placeBid(2, 6, 20), 1, "the same price and grade, and as much as the bid");
        bothMatch(x, x.placeBid(2, 1, 10), 3, "the lowest price");
        bothMatch(x, x.placeBid(2, 7, 30), 0, "grade over price");
        x.placeBid(2, 1, 39);
        bothMatch(x, 4, 3, "a bid that is not the first");
    }

    private static void bothMatch(BarnacleExchange x, int bid, int offer, String what) {
        Check.is(31, what, offer, () -> x.matchFor(bid));
        Check.is(32, what, offer, () -> x.matchByBarnacles(bid));
    }

    private static void noMatch() {
        BarnacleExchange x = twoShips();
        x.addBarnacle(0, 5);
        x.placeBid(1, 5, 9);
        noneMatches(x, 0, "no offers");
        x.placeOffer(0, 10);
        noneMatches(x, 0, "the price is too high");
        x.placeBid(1, 6, 10);
        noneMatches(x, 1, "the grade is too low");
        x.placeBid(0, 1, 50);
        noneMatches(x, 2, "the barnacle is on the ship");
        bothMatch(x, x.placeBid(1, 5, 10), 0, "just fits");
        x.cancelBid(3);
        noneMatches(x, 3, "a bid that is cancelled");
        noneMatches(x, -1, "bid -1");
        noneMatches(x, 4, "bid 4");
        x.placeBid(1, 1, 10);
        x.cancelOffer(0);
        noneMatches(x, 4, "the offer is cancelled");
    }

    private static void noneMatches(BarnacleExchange x, int bid, String what) {
        Check.fails(31, what, NONE, () -> x.matchFor(bid));
        Check.fails(32, what, NONE, () -> x.matchByBarnacles(bid));
    }

    private static void spread() {
        BarnacleExchange x = twoShips();
        x.addBarnacle(0, 5);
        x.addBarnacle(0, 5);
        Check.fails(33, "nothing", NONE, x::spread);
        x.placeBid(1, 1, 20);
        Check.fails(33, "no offers", NONE, x::spread);
        x.placeOffer(0, 50);
        Check.is(33, "negative", -30, x::spread);
        x.placeOffer(1, 12);
        x.placeBid(1, 1, 25);
        x.placeBid(1, 1, 3);
        Check.is(33, "the first ones", 13, x::spread);
        x.cancelOffer(1);
        Check.is(33, "after a cancel", -25, x::spread);
        x.cancelBid(0);
        x.cancelBid(1);
        x.cancelBid(2);
        Check.fails(33, "no bids", NONE, x::spread);
    }
}
