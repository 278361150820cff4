import java.util.NoSuchElementException;

/** Promises 58 to 63: rejections and history. */
public final class HistoryTest {
    private static final Class<IllegalStateException> STATE = IllegalStateException.class;
    private static final Class<NoSuchElementException> NONE = NoSuchElementException.class;

    private HistoryTest() {
    }

    public static void main(String[] args) {
        rejections();
        undoOneByOne();
        eightChanges();
        whatIsAChange();
        whatIsNoChange();
        undoCoversAll();
        earlierTradesComeBack();
        otherShipsComeBack();
        snapshot();
        snapshotCoversAll();
        undoAndSnapshot();
        whatIsNotCovered();
        Check.end("HistoryTest", 58, 63);
    }

    private static void rejections() {
        BarnacleExchange x = new BarnacleExchange();
        Check.fails(58, "none yet", NONE, x::rejectionReason);
        Check.fails(59, "none yet", NONE, x::rejectionDetail);
        Check.fails(60, "none yet", NONE, x::causeReason);
        x.addShip(5, 1);
        Check.rejects(58, "too poor", x, BarnacleExchange.TOO_POOR, 5, () -> x.placeBid(0, 1, 6));
        Check.fails(60, "no command", NONE, x::causeReason);
        x.addBarnacle(0, 1);
        Check.is(58, "kept", BarnacleExchange.TOO_POOR, x::rejectionReason);
        Check.fails(58, "another exception", IndexOutOfBoundsException.class, () -> x.placeBid(1, 1, 6));
        Check.is(58, "kept after it", BarnacleExchange.TOO_POOR, x::rejectionReason);
        Check.rejects(58, "no place", x, BarnacleExchange.NO_PLACE, 1, () -> x.placeBid(0, 1, 6));
        Check.rejects(58, "command 2", x, BarnacleExchange.COMMAND_REJECTED, 2, () -> Check.run(x, "t;c0+1;a01"));
        Check.is(60, "its cause", BarnacleExchange.NO_PLACE, x::causeReason);
        x.placeOffer(0, 1);
        Check.is(60, "kept", BarnacleExchange.NO_PLACE, x::causeReason);
        Check.rejects(58, "offered", x, BarnacleExchange.OFFERED, 0, () -> x.placeOffer(0, 2));
        Check.fails(60, "the latest is no command", NONE, x::causeReason);
    }

    private static void undoOneByOne() {
        BarnacleExchange x = new BarnacleExchange();
        Check.fails(61, "nothing", STATE, x::undo);
        x.addShip(50, 3);
        x.giveCoins(0, 10);
        x.addBarnacle(0, 4);
        Check.is(61, "the barnacle", 2, x::undo);
        Check.is(61, "no barnacle", 0, x::barnacleCount);
        Check.is(61, "the coins", 1, x::undo);
        Check.is(61, "coins", 50, () -> x.coinsOf(0));
        Check.is(61, "coins given", 50, x::allCoinsGiven);
        x.giveCoins(0, 7);
        Check.is(61, "a new change", 1, x::undo);
        Check.is(61, "coins again", 50, () -> x.coinsOf(0));
        Check.is(61, "the ship", 0, x::undo);
        Check.is(61, "no ship", 0, x::shipCount);
        Check.fails(61, "nothing is left", STATE, x::undo);
        Check.is(61, "still no ship", 0, x::shipCount);
    }

    private static void eightChanges() {
        BarnacleExchange x = new BarnacleExchange();
        x.addShip(1, 1);
        for (int i = 0; i < 20; i++) {
            x.giveCoins(0, 10);
        }
        for (int undone = 1; undone <= 8; undone++) {
            int count = undone;
            Check.is(61, "left after " + count, 8 - count, x::undo);
            Check.is(61, "coins after " + count, 201 - 10 * count, () -> x.coinsOf(0));
        }
        Check.fails(61, "no ninth", STATE, x::undo);
        Check.is(61, "coins after all", 121, () -> x.coinsOf(0));
        for (int i = 0; i < 3; i++) {
            x.giveCoins(0, 1);
        }
        Check.is(61, "three later ones", 2, x::undo);
        Check.is(61, "coins after one of them", 123, () -> x.coinsOf(0));
    }

    private static void whatIsAChange() {
        BarnacleExchange x = new BarnacleExchange();
        x.addShip(50, 5);
        x.addBarnacle(0, 1);
        x.placeBid(0, 1, 1);
        x.placeOffer(0, 9);
        x.cancelBid(0);
        x.cancelOffer(0);
        // These two change nothing but count.
        x.setFee(1);
        Check.run(x, "f1;c0+5");
        Check.is(61, "execute", 7, x::undo);
        Check.is(61, "coins", 50, () -> x.coinsOf(0));
        Check.is(61, "setFee", 6, x::undo);
        Check.is(61, "cancelOffer", 5, x::undo);
        Check.is(61, "the offer is open", 9, () -> x.priceOfOffer(0));
        Check.is(61, "cancelBid", 4, x::undo);
        Check.is(61, "the bid is open", 1, () -> x.priceOfBid(0));
        Check.is(61, "placeOffer", 3, x::undo);
        Check.is(61, "not offered", false, () -> x.isOffered(0));
        Check.is(61, "placeBid", 2, x::undo);
        Check.is(61, "nothing is reserved", 0, () -> x.reservedCoins(0));
        x.giveCoins(0, 1);
        x.passTide();
        Check.is(61, "passTide", 3, x::undo);
        Check.is(61, "no tide", 0, x::tideCount);
    }

    private static void whatIsNoChange() {
        BarnacleExchange x = new BarnacleExchange();
        x.addShip(10, 1);
        Check.fails(61, "a wrong argument", IllegalArgumentException.class, () -> x.setFee(10));
        Check.fails(61, "a rejection", UnsupportedOperationException.class, () -> x.placeBid(0, 1, 11));
        Check.fails(61, "no such bid", NONE, () -> x.cancelBid(0));
        Check.fails(61, "a syntax error", IllegalArgumentException.class, () -> Check.run(x, "f"));
        Check.fails(61, "a failing command", STATE, () -> Check.run(x, "f5;x0"));
        Check.fails(61, "a rejected command", UnsupportedOperationException.class, () -> Check.run(x, "f5;b01@11"));
        x.saveSnapshot();
        x.writeShip(0);
        x.appendInput('t');
        x.wouldTrade();
        Check.is(61, "one change", 0, x::undo);
    }

    private static void undoCoversAll() {
        BarnacleExchange x = tradingShips();
        Check.is(34, "two trades", 2, x::passTide);
        Check.is(61, "the tide", 7, x::undo);
        asAheadOfTheTide(x, 61);
        Check.is(34, "two trades again", 2, x::passTide);
        asAfterTheTide(x, 34);
    }

    /** A tide is ahead in which bids 0 and 1 trade, bid 2 expires and offer 2 grows older. */
    private static BarnacleExchange tradingShips() {
        BarnacleExchange x = new BarnacleExchange();
        x.addShip(50, 4);
        x.addShip(60, 3);
        x.addBarnacle(1, 4);
        x.addBarnacle(1, 6);
        x.addBarnacle(1, 2);
        x.setFee(2);
        x.placeBid(0, 1, 15);
        x.placeBid(0, 5, 20);
        x.placeBid(0, 9, 10);
        x.passTide();
        x.passTide();
        x.placeOffer(0, 10);
        x.placeOffer(1, 10);
        x.placeOffer(2, 90);
        return x;
    }

    private static void asAheadOfTheTide(BarnacleExchange x, int promise) {
        Check.is(promise, "trades", 0, x::tradeCount);
        Check.is(promise, "turnover", 0, x::turnover);
        Check.fails(promise, "latest trade", NONE, () -> x.priceOf(0));
        Check.is(promise, "coins of the exchange", 0, x::exchangeCoins);
        Check.is(promise, "expired", 0, x::expiredCount);
        Check.is(promise, "tides", 2, x::tideCount);
        Check.is(promise, "coins of the buyer", 50, () -> x.coinsOf(0));
        Check.is(promise, "coins of the seller", 60, () -> x.coinsOf(1));
        Check.is(promise, "ship of the barnacle", 1, () -> x.shipOf(1));
        Check.is(promise, "bids", 3, x::bidCount);
        Check.is(promise, "first bid", 1, () -> x.bidAt(0));
        Check.is(promise, "grade of the first bid", 5, () -> x.gradeOfBid(1));
        Check.is(promise, "last bid", 2, () -> x.bidAt(2));
        Check.is(promise, "age of the last bid", 2, () -> x.ageOfBid(2));
        Check.is(promise, "offers", 3, x::offerCount);
        Check.is(promise, "first offer", 1, () -> x.offerAt(0));
        Check.is(promise, "age of the first offer", 0, () -> x.ageOfOffer(1));
        Check.is(promise, "fee", 2, x::fee);
        Check.is(promise, "reserved", 45, () -> x.reservedCoins(0));
        Check.is(promise, "consistent", true, x::isConsistent);
    }

    private static void asAfterTheTide(BarnacleExchange x, int promise) {
        Check.is(promise, "trades", 2, x::tradeCount);
        Check.is(promise, "turnover", 27, x::turnover);
        Check.is(promise, "buyer", 0, () -> x.buyerOf(0));
        Check.is(promise, "seller", 1, () -> x.sellerOf(1));
        Check.is(promise, "barnacle", 0, () -> x.barnacleOf(0));
        Check.is(promise, "price", 15, () -> x.priceOf(1));
        Check.is(promise, "coins of the exchange", 4, x::exchangeCoins);
        Check.is(promise, "expired", 1, x::expiredCount);
        Check.is(promise, "tides", 3, x::tideCount);
        Check.is(promise, "coins of the buyer", 23, () -> x.coinsOf(0));
        Check.is(promise, "coins of the seller", 83, () -> x.coinsOf(1));
        Check.is(promise, "ship of the barnacle", 0, () -> x.shipOf(1));
        Check.is(promise, "bids", 0, x::bidCount);
        Check.is(promise, "offers", 1, x::offerCount);
        Check.is(promise, "age of the offer", 1, () -> x.ageOfOffer(2));
    }

    private static void earlierTradesComeBack() {
        BarnacleExchange x = new BarnacleExchange();
        x.addShip(50, 4);
        x.addShip(60, 3);
        x.addBarnacle(0, 4);
        x.addBarnacle(1, 6);
        x.placeOffer(1, 10);
        x.placeBid(0, 1, 12);
        x.passTide();
        x.saveSnapshot();
        x.placeOffer(0, 20);
        x.placeBid(1, 1, 30);
        x.passTide();
        Check.is(61, "the second trade", 25, () -> x.priceOf(0));
        Check.is(61, "undone", 7, x::undo);
        firstTradeIsLatest(x, 61);
        Check.is(61, "again", 1, x::passTide);
        Check.is(61, "its buyer", 1, () -> x.buyerOf(0));
        Check.is(61, "its barnacle", 0, () -> x.barnacleOf(0));
        x.restoreSnapshot();
        firstTradeIsLatest(x, 63);
    }

    private static void firstTradeIsLatest(BarnacleExchange x, int promise) {
        Check.is(promise, "buyer", 0, () -> x.buyerOf(0));
        Check.is(promise, "seller", 1, () -> x.sellerOf(0));
        Check.is(promise, "barnacle", 1, () -> x.barnacleOf(0));
        Check.is(promise, "price", 11, () -> x.priceOf(0));
        Check.fails(promise, "no second trade", NONE, () -> x.priceOf(1));
    }

    private static void otherShipsComeBack() {
        BarnacleExchange x = new BarnacleExchange();
        x.addShip(50, 2);
        x.addBarnacle(0, 3);
        x.addShip(9, 4);
        x.saveSnapshot();
        x.undo();
        x.undo();
        x.undo();
        x.addShip(60, 5);
        x.addShip(7, 1);
        x.addBarnacle(1, 8);
        Check.is(63, "the ships of the snapshot", 2, x::restoreSnapshot);
        Check.is(63, "coins", 50, () -> x.coinsOf(0));
        Check.is(63, "capacity", 2, () -> x.capacityOf(0));
        Check.is(63, "coins of the second", 9, () -> x.coinsOf(1));
        Check.is(63, "capacity of the second", 4, () -> x.capacityOf(1));
        Check.is(63, "ship of the barnacle", 0, () -> x.shipOf(0));
        Check.is(63, "grade of the barnacle", 3, () -> x.gradeOf(0));
    }

    private static void snapshot() {
        BarnacleExchange x = new BarnacleExchange();
        Check.fails(63, "none yet", STATE, x::restoreSnapshot);
        Check.is(62, "no ships", 0, x::saveSnapshot);
        x.addShip(5, 1);
        Check.is(63, "no ships", 0, x::restoreSnapshot);
        Check.is(63, "the ship is gone", 0, x::shipCount);
        Check.fails(63, "nothing to undo", STATE, x::undo);
        x.addShip(6, 1);
        x.addShip(7, 1);
        Check.is(62, "in place of the earlier one", 2, x::saveSnapshot);
        x.giveCoins(1, 9);
        x.addShip(8, 1);
        Check.is(63, "two ships", 2, x::restoreSnapshot);
        Check.is(63, "coins", 7, () -> x.coinsOf(1));
        Check.fails(63, "no third ship", IndexOutOfBoundsException.class, () -> x.coinsOf(2));
        x.giveCoins(1, 1);
        Check.is(63, "it is kept", 2, x::restoreSnapshot);
        Check.is(63, "coins again", 7, () -> x.coinsOf(1));
        x.giveCoins(1, 2);
        Check.is(63, "a change after it", 0, x::undo);
        Check.is(63, "coins after the undo", 7, () -> x.coinsOf(1));
    }

    private static void snapshotCoversAll() {
        BarnacleExchange x = tradingShips();
        Check.is(62, "two ships", 2, x::saveSnapshot);
        x.passTide();
        asAfterTheTide(x, 62);
        x.setFee(9);
        x.addShip(1, 1);
        x.addBarnacle(0, 9);
        x.placeBid(1, 1, 1);
        x.placeOffer(3, 1);
        Check.is(63, "two ships", 2, x::restoreSnapshot);
        asAheadOfTheTide(x, 63);
        Check.is(63, "barnacles", 3, x::barnacleCount);
        Check.is(63, "coins given", 110, x::allCoinsGiven);
        Check.is(63, "the next offer", 2, () -> x.cancelOffer(0));
        Check.is(63, "its id", 3, () -> x.placeOffer(0, 10));
        Check.is(63, "the next bid", 3, () -> x.placeBid(0, 1, 1));
    }

    private static void undoAndSnapshot() {
        BarnacleExchange x = new BarnacleExchange();
        x.addShip(5, 5);
        Check.is(61, "a bid", 0, () -> x.placeBid(0, 1, 1));
        x.undo();
        Check.is(61, "its id is given again", 0, () -> x.placeBid(0, 1, 2));
        x.addBarnacle(0, 1);
        x.placeOffer(0, 4);
        x.undo();
        Check.is(61, "the id of the offer too", 0, () -> x.placeOffer(0, 5));
        x.saveSnapshot();
        Check.is(61, "saving is no change", 3, x::undo);
        Check.is(61, "offers", 0, x::offerCount);
        x.undo();
        x.undo();
        Check.is(61, "the ship is left", 0, x::undo);
        Check.is(63, "undo leaves the snapshot", 1, x::restoreSnapshot);
        Check.is(63, "the offer", 5, () -> x.priceOfOffer(0));
        Check.is(63, "the bid", 2, () -> x.priceOfBid(0));
    }

    private static void whatIsNotCovered() {
        BarnacleExchange x = new BarnacleExchange();
        x.addShip(5, 5);
        x.saveSnapshot();
        Check.type(x, "t;t");
        Check.rejects(58, "too poor", x, BarnacleExchange.TOO_POOR, 5, () -> x.placeBid(0, 1, 6));
        x.undo();
        Check.is(61, "undo leaves the rejection", BarnacleExchange.TOO_POOR, x::rejectionReason);
        x.restoreSnapshot();
        Check.is(63, "the snapshot leaves the rejection", 5, x::rejectionDetail);
        Check.is(63, "the input is left", 4, () -> x.appendInput('x'));
        Check.fails(63, "a syntax error", IllegalArgumentException.class, x::execute);
        x.restoreSnapshot();
        Check.is(63, "the snapshot leaves the syntax error", 3, x::syntaxErrorOffset);
        x.addShip(1, 1);
        Check.type(x, "t;");
        x.undo();
        Check.is(61, "undo leaves the input", 2, () -> Check.run(x, "t"));
    }
}
