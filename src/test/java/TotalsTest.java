import java.util.NoSuchElementException;

/** Promises 43 to 52: totals and orders. */
public final class TotalsTest {
    private static final Class<NoSuchElementException> NONE = NoSuchElementException.class;

    private TotalsTest() {
    }

    public static void main(String[] args) {
        totals();
        coins();
        wealth();
        shares();
        consistency();
        Check.end("TotalsTest", 43, 52);
    }

    private static BarnacleExchange threeTrades() {
        BarnacleExchange x = new BarnacleExchange();
        x.addShip(99, 5);
        x.addShip(50, 5);
        x.setFee(4);
        for (int i = 0; i < 3; i++) {
            x.addBarnacle(1, 5);
        }
        x.placeOffer(0, 10);
        x.placeBid(0, 1, 11);
        x.passTide();
        x.placeOffer(1, 3);
        x.placeOffer(2, 20);
        x.placeBid(0, 1, 3);
        x.placeBid(0, 1, 25);
        x.placeBid(0, 1, 1);
        return x;
    }

    private static void totals() {
        BarnacleExchange x = new BarnacleExchange();
        Check.is(43, "no trades", 0, x::tradeCount);
        Check.is(44, "no trades", 0, x::turnover);
        Check.is(45, "no trades", 0, x::exchangeCoins);
        Check.is(46, "nothing", 0, x::expiredCount);
        Check.fails(50, "no trades", ArithmeticException.class, x::meanPrice);
        BarnacleExchange y = threeTrades();
        Check.is(43, "one trade", 1, y::tradeCount);
        Check.is(44, "one trade", 10, y::turnover);
        Check.is(45, "one trade", 4, y::exchangeCoins);
        Check.is(50, "one trade", 10.0, y::meanPrice);
        y.passTide();
        // The bid of 25 takes the offer of 3, the price is 14; the bid of 3 finds none.
        Check.is(43, "two trades", 2, y::tradeCount);
        Check.is(44, "two trades", 24, y::turnover);
        Check.is(45, "two trades", 8, y::exchangeCoins);
        Check.is(50, "two trades", 12.0, y::meanPrice);
        y.placeBid(0, 1, 21);
        y.passTide();
        Check.is(43, "three trades", 3, y::tradeCount);
        Check.is(44, "three trades", 44, y::turnover);
        Check.is(45, "three trades", 12, y::exchangeCoins);
        Check.is(50, "three trades", 44.0 / 3.0, y::meanPrice);
        Check.is(46, "nothing yet", 0, y::expiredCount);
        y.passTide();
        Check.is(46, "two bids", 2, y::expiredCount);
        Check.is(43, "no further trade", 3, y::tradeCount);
    }

    private static void coins() {
        BarnacleExchange x = new BarnacleExchange();
        Check.is(47, "no ships", 0, x::allCoins);
        Check.is(48, "no ships", 0, x::allCoinsGiven);
        BarnacleExchange y = threeTrades();
        Check.is(47, "after a trade", 149, y::allCoins);
        Check.is(48, "after a trade", 149, y::allCoinsGiven);
        y.giveCoins(1, 51);
        y.passTide();
        Check.is(47, "after more trades", 200, y::allCoins);
        Check.is(48, "after more trades", 200, y::allCoinsGiven);
        Check.is(47, "the sum of its parts", 200, () -> y.coinsOf(0) + y.coinsOf(1) + y.exchangeCoins());
        y.addShip(7, 1);
        Check.is(47, "a further ship", 207, y::allCoins);
        Check.is(48, "a further ship", 207, y::allCoinsGiven);
        y.undo();
        Check.is(48, "undone", 200, y::allCoinsGiven);
    }

    private static void wealth() {
        BarnacleExchange x = new BarnacleExchange();
        Check.fails(49, "no ships", NONE, () -> x.shipByWealth(0));
        int[] coins = {10, 4, 12, 3, 12, 20};
        for (int ship = 0; ship < 6; ship++) {
            x.addShip(coins[ship], 5);
        }
        x.addBarnacle(0, 2);
        x.addBarnacle(1, 8);
        x.addBarnacle(3, 5);
        x.addBarnacle(3, 4);
        x.placeBid(5, 1, 20);
        // The wealth is 12, 12, 12, 12, 12, 20, and the load 1, 1, 0, 2, 0, 0; a bid changes nothing.
        int[] due = {5, 3, 0, 1, 2, 4};
        for (int position = 0; position < 6; position++) {
            int at = position;
            Check.is(49, "position " + at, due[at], () -> x.shipByWealth(at));
        }
        Check.fails(49, "position 6", NONE, () -> x.shipByWealth(6));
        Check.fails(49, "position -1", NONE, () -> x.shipByWealth(-1));
        Check.fails(49, "position far out", NONE, () -> x.shipByWealth(Integer.MIN_VALUE));
        x.giveCoins(4, 1);
        Check.is(49, "a coin more", 4, () -> x.shipByWealth(1));
    }

    private static void shares() {
        BarnacleExchange x = new BarnacleExchange();
        x.addShip(9, 5);
        Check.fails(51, "no barnacles", ArithmeticException.class, x::offeredShare);
        x.addBarnacle(0, 1);
        x.addBarnacle(0, 1);
        x.addBarnacle(0, 1);
        Check.is(51, "none of three", 0.0f, x::offeredShare);
        x.placeOffer(1, 9);
        Check.is(51, "one of three", 1.0f / 3.0f, x::offeredShare);
        x.placeOffer(0, 9);
        x.placeOffer(2, 9);
        Check.is(51, "all", 1.0f, x::offeredShare);
        x.cancelOffer(1);
        Check.is(51, "two of three", 2.0f / 3.0f, x::offeredShare);
    }

    private static void consistency() {
        BarnacleExchange x = new BarnacleExchange();
        Check.is(52, "no ships", true, x::isConsistent);
        x.addShip(10, 2);
        x.addShip(40, 2);
        x.addBarnacle(1, 4);
        x.addBarnacle(1, 4);
        x.placeOffer(1, 5);
        x.placeOffer(0, 5);
        x.placeBid(0, 1, 5);
        x.placeBid(0, 9, 5);
        Check.is(52, "all places and coins are reserved", true, x::isConsistent);
        x.passTide();
        Check.is(52, "after a tide", true, x::isConsistent);
        x.undo();
        Check.is(52, "after an undo", true, x::isConsistent);
    }
}
