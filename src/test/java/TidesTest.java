import java.util.NoSuchElementException;

/** Promises 34 to 42: tides. */
public final class TidesTest {
    private static final Class<NoSuchElementException> NONE = NoSuchElementException.class;

    private TidesTest() {
    }

    public static void main(String[] args) {
        emptyTide();
        oneTrade();
        priceIsRoundedDown();
        feeIsAtMostThePrice();
        bidsTakeTurns();
        aFullShipBuysAndSells();
        aBarnacleIsTradedOnce();
        aBidIsTradedOnce();
        aBidWithoutMatchIsPassedBy();
        aTradedBarnacleMayBeOfferedAgain();
        ordersExpire();
        aTradeComesAheadOfExpiry();
        setFee();
        latestTrades();
        Check.end("TidesTest", 34, 42);
    }

    private static BarnacleExchange threeShips() {
        BarnacleExchange x = new BarnacleExchange();
        x.addShip(99, 5);
        x.addShip(99, 5);
        x.addShip(99, 5);
        return x;
    }

    private static void emptyTide() {
        BarnacleExchange x = new BarnacleExchange();
        Check.is(38, "no tides", 0, x::tideCount);
        Check.is(35, "nothing to trade", 0, x::wouldTrade);
        Check.is(34, "nothing to trade", 0, x::passTide);
        Check.is(38, "one tide", 1, x::tideCount);
        x.passTide();
        Check.is(38, "two tides", 2, x::tideCount);
        x.undo();
        Check.is(38, "one tide undone", 1, x::tideCount);
    }

    private static void oneTrade() {
        BarnacleExchange x = threeShips();
        x.addBarnacle(2, 6);
        x.placeOffer(0, 10);
        x.placeBid(1, 6, 20);
        Check.is(35, "a trade", 1, x::wouldTrade);
        Check.is(35, "nothing is changed", 1, x::wouldTrade);
        Check.is(35, "no trade yet", 0, x::tradeCount);
        Check.is(35, "no tide yet", 0, x::tideCount);
        Check.is(35, "the bid is open", 0, () -> x.ageOfBid(0));
        Check.is(34, "a trade", 1, x::passTide);
        Check.is(34, "the buyer pays", 84, () -> x.coinsOf(1));
        Check.is(34, "the seller gets it less the fee", 113, () -> x.coinsOf(2));
        Check.is(34, "the exchange gets the fee", 1, x::exchangeCoins);
        Check.is(34, "the barnacle moves", 1, () -> x.shipOf(0));
        Check.is(34, "the bid is closed", 0, x::bidCount);
        Check.is(34, "the offer is closed", 0, x::offerCount);
        Check.is(34, "nothing is reserved", 0, () -> x.reservedCoins(1));
        Check.is(34, "places of the buyer", 4, () -> x.freePlaces(1));
        Check.is(34, "places of the seller", 5, () -> x.freePlaces(2));
        Check.is(34, "nothing expired", 0, x::expiredCount);
        Check.is(39, "buyer", 1, () -> x.buyerOf(0));
        Check.is(40, "seller", 2, () -> x.sellerOf(0));
        Check.is(41, "barnacle", 0, () -> x.barnacleOf(0));
        Check.is(42, "price", 15, () -> x.priceOf(0));
        Check.is(35, "nothing is left", 0, x::wouldTrade);
    }

    private static void priceIsRoundedDown() {
        BarnacleExchange x = threeShips();
        x.addBarnacle(0, 1);
        x.placeOffer(0, 4);
        x.placeBid(1, 1, 7);
        x.passTide();
        Check.is(34, "5 and a half", 94, () -> x.coinsOf(1));
        Check.is(42, "5 and a half", 5, () -> x.priceOf(0));
    }

    private static void feeIsAtMostThePrice() {
        BarnacleExchange x = threeShips();
        x.addBarnacle(0, 1);
        x.addBarnacle(0, 1);
        x.setFee(9);
        x.placeOffer(0, 3);
        x.placeOffer(1, 10);
        x.placeBid(1, 1, 4);
        x.passTide();
        Check.is(34, "the seller gets nothing", 99, () -> x.coinsOf(0));
        Check.is(34, "the buyer pays 3", 96, () -> x.coinsOf(1));
        Check.is(34, "the exchange gets 3", 3, x::exchangeCoins);
        x.placeBid(1, 1, 10);
        x.setFee(0);
        x.passTide();
        Check.is(34, "no fee", 109, () -> x.coinsOf(0));
        Check.is(34, "the exchange gets nothing", 3, x::exchangeCoins);
    }

    private static void bidsTakeTurns() {
        BarnacleExchange x = threeShips();
        x.addBarnacle(0, 9);
        x.addBarnacle(0, 2);
        x.addBarnacle(1, 5);
        x.placeOffer(0, 10);
        x.placeOffer(1, 20);
        x.placeOffer(2, 5);
        x.placeBid(2, 1, 10);
        x.placeBid(1, 1, 30);
        x.placeBid(2, 3, 30);
        x.placeBid(2, 1, 19);
        // Bid 1 takes offer 0, bid 2 offer 2, and bids 3 and 0 find nothing that is left for them.
        Check.is(35, "two of four", 2, x::wouldTrade);
        Check.is(34, "two of four", 2, x::passTide);
        Check.is(39, "the latest is the second", 2, () -> x.buyerOf(0));
        Check.is(41, "the latest is the second", 2, () -> x.barnacleOf(0));
        Check.is(42, "the latest is the second", 17, () -> x.priceOf(0));
        Check.is(40, "the latest is the second", 1, () -> x.sellerOf(0));
        Check.is(39, "the first", 1, () -> x.buyerOf(1));
        Check.is(41, "the first", 0, () -> x.barnacleOf(1));
        Check.is(42, "the first", 20, () -> x.priceOf(1));
        Check.is(40, "the first", 0, () -> x.sellerOf(1));
        Check.is(34, "left of the bids", 3, () -> x.bidAt(0));
        Check.is(34, "left of the bids, the last", 0, () -> x.bidAt(1));
        Check.is(34, "left of the offers", 1, () -> x.offerAt(0));
        Check.is(34, "older", 1, () -> x.ageOfBid(3));
        Check.is(34, "the offer is older", 1, () -> x.ageOfOffer(1));
        Check.is(34, "consistent", true, x::isConsistent);
    }

    private static void aFullShipBuysAndSells() {
        BarnacleExchange x = new BarnacleExchange();
        x.addShip(50, 1);
        x.addShip(0, 1);
        x.placeBid(0, 1, 40);
        x.addBarnacle(1, 1);
        x.placeOffer(0, 40);
        Check.is(34, "the reserved place is used", 1, x::passTide);
        Check.is(34, "no place is left", 0, () -> x.freePlaces(0));
        Check.is(34, "the seller has a place", 1, () -> x.freePlaces(1));
        Check.is(34, "coins of the seller", 39, () -> x.coinsOf(1));
    }

    private static void aBarnacleIsTradedOnce() {
        BarnacleExchange x = threeShips();
        x.addBarnacle(0, 5);
        x.placeOffer(0, 10);
        x.placeBid(1, 1, 20);
        x.placeBid(2, 1, 30);
        Check.is(35, "one offer for two bids", 1, x::wouldTrade);
        Check.is(34, "one offer for two bids", 1, x::passTide);
        Check.is(34, "it is on the ship of the higher bid", 2, () -> x.shipOf(0));
        Check.is(34, "the other bid is open", 1, () -> x.ageOfBid(0));
    }

    private static void aBidIsTradedOnce() {
        BarnacleExchange x = threeShips();
        x.addBarnacle(0, 5);
        x.addBarnacle(0, 6);
        x.placeOffer(0, 10);
        x.placeOffer(1, 10);
        x.placeBid(1, 1, 20);
        Check.is(35, "one bid for two offers", 1, x::wouldTrade);
        Check.is(34, "one bid for two offers", 1, x::passTide);
        Check.is(34, "the better one is sold", 1, () -> x.shipOf(1));
        Check.is(34, "the other offer is open", 1, () -> x.ageOfOffer(0));
        Check.is(34, "the buyer paid once", 84, () -> x.coinsOf(1));
    }

    private static void aBidWithoutMatchIsPassedBy() {
        BarnacleExchange x = threeShips();
        x.addBarnacle(0, 5);
        x.addBarnacle(0, 3);
        x.placeOffer(0, 10);
        x.placeOffer(1, 11);
        x.placeBid(1, 9, 50);
        x.placeBid(2, 4, 30);
        x.placeBid(1, 5, 20);
        x.placeBid(2, 1, 12);
        // Bid 0 finds none, bid 1 takes offer 0, bid 2 finds none, and bid 3 takes offer 1.
        Check.is(35, "two of four", 2, x::wouldTrade);
        Check.is(34, "two of four", 2, x::passTide);
        Check.is(34, "ship of barnacle 0", 2, () -> x.shipOf(0));
        Check.is(34, "ship of barnacle 1", 2, () -> x.shipOf(1));
        Check.is(34, "the first bid is open", 1, () -> x.ageOfBid(0));
        Check.is(34, "the third bid is open", 1, () -> x.ageOfBid(2));
        Check.is(34, "no other bid is", 2, x::bidCount);
    }

    private static void aTradedBarnacleMayBeOfferedAgain() {
        BarnacleExchange x = threeShips();
        x.addBarnacle(0, 5);
        x.placeOffer(0, 10);
        x.placeBid(1, 1, 20);
        x.passTide();
        Check.is(17, "a new offer", 1, () -> x.placeOffer(0, 12));
        x.placeBid(0, 1, 12);
        Check.is(34, "back again", 1, x::passTide);
        Check.is(34, "the first ship", 0, () -> x.shipOf(0));
        Check.is(40, "the second seller", 1, () -> x.sellerOf(0));
    }

    private static void ordersExpire() {
        BarnacleExchange x = threeShips();
        x.addBarnacle(0, 1);
        x.addBarnacle(0, 1);
        x.placeBid(1, 9, 50);
        x.placeOffer(0, 99);
        x.passTide();
        x.placeBid(1, 9, 10);
        x.placeBid(2, 9, 60);
        x.placeOffer(1, 98);
        x.passTide();
        Check.is(46, "nothing after two tides", 0, x::expiredCount);
        Check.is(34, "all are open", 3, x::bidCount);
        Check.is(34, "no trade", 0, x::passTide);
        Check.is(46, "a bid and an offer", 2, x::expiredCount);
        Check.is(34, "two bids are open", 2, x::bidCount);
        Check.is(34, "one offer is open", 1, x::offerCount);
        Check.is(34, "coins are free", 10, () -> x.reservedCoins(1));
        Check.is(34, "a place is free", 4, () -> x.freePlaces(1));
        Check.is(34, "not offered", false, () -> x.isOffered(0));
        Check.is(34, "still offered", true, () -> x.isOffered(1));
        x.passTide();
        Check.is(46, "all of them", 5, x::expiredCount);
        Check.is(34, "no bids", 0, x::bidCount);
        Check.is(34, "no offers", 0, x::offerCount);
    }

    private static void aTradeComesAheadOfExpiry() {
        BarnacleExchange x = threeShips();
        x.addBarnacle(0, 1);
        x.placeBid(1, 1, 50);
        x.passTide();
        x.passTide();
        x.placeOffer(0, 50);
        Check.is(34, "in its last tide", 1, x::passTide);
        Check.is(46, "nothing expired", 0, x::expiredCount);
    }

    private static void setFee() {
        BarnacleExchange x = new BarnacleExchange();
        Check.is(37, "at first", 1, x::fee);
        Check.is(36, "the previous fee", 1, () -> x.setFee(9));
        Check.is(37, "the new fee", 9, x::fee);
        Check.is(36, "the least fee", 9, () -> x.setFee(0));
        Check.is(37, "the least fee", 0, x::fee);
        Check.is(36, "the same again", 0, () -> x.setFee(0));
        Check.fails(36, "fee -1", IllegalArgumentException.class, () -> x.setFee(-1));
        Check.fails(36, "fee 10", IllegalArgumentException.class, () -> x.setFee(10));
        Check.fails(36, "fee far out", IllegalArgumentException.class, () -> x.setFee(Integer.MAX_VALUE));
        Check.is(37, "unchanged", 0, x::fee);
    }

    private static void latestTrades() {
        BarnacleExchange x = new BarnacleExchange();
        for (int ship = 0; ship < 5; ship++) {
            x.addShip(99, 3);
        }
        noTrade(x, 0);
        for (int barnacle = 0; barnacle < 3; barnacle++) {
            x.addBarnacle(4, 1 + barnacle);
        }
        // Trade i moves barnacle i % 3 from ship 4 - i / 3 to the one before, at the price 5 + i.
        for (int i = 0; i < 12; i++) {
            x.placeOffer(i % 3, 5 + i);
            x.placeBid(3 - i / 3, 1 + i % 3, 5 + i);
            x.passTide();
        }
        for (int recency = 0; recency < 10; recency++) {
            int back = recency;
            int trade = 11 - recency;
            Check.is(39, "recency " + back, 3 - trade / 3, () -> x.buyerOf(back));
            Check.is(40, "recency " + back, 4 - trade / 3, () -> x.sellerOf(back));
            Check.is(41, "recency " + back, trade % 3, () -> x.barnacleOf(back));
            Check.is(42, "recency " + back, 5 + trade, () -> x.priceOf(back));
        }
        noTrade(x, 10);
        noTrade(x, 11);
        noTrade(x, -1);
        noTrade(x, Integer.MAX_VALUE);
        noTrade(x, Integer.MIN_VALUE);
        BarnacleExchange y = new BarnacleExchange();
        y.addShip(9, 1);
        y.addShip(9, 1);
        y.addBarnacle(0, 1);
        y.placeOffer(0, 1);
        y.placeBid(1, 1, 1);
        y.passTide();
        Check.is(42, "one trade", 1, () -> y.priceOf(0));
        noTrade(y, 1);
    }

    private static void noTrade(BarnacleExchange x, int recency) {
        Check.fails(39, "recency " + recency, NONE, () -> x.buyerOf(recency));
        Check.fails(40, "recency " + recency, NONE, () -> x.sellerOf(recency));
        Check.fails(41, "recency " + recency, NONE, () -> x.barnacleOf(recency));
        Check.fails(42, "recency " + recency, NONE, () -> x.priceOf(recency));
    }
}
