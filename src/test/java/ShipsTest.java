import java.util.NoSuchElementException;

/** Promises 1 to 15: ships and barnacles. */
public final class ShipsTest {
    private static final Class<IndexOutOfBoundsException> OUT = IndexOutOfBoundsException.class;
    private static final Class<IllegalArgumentException> ILLEGAL = IllegalArgumentException.class;
    private static final Class<NoSuchElementException> NONE = NoSuchElementException.class;
    private static final int[] NO_SHIPS = {-1, 2, 6, Integer.MIN_VALUE, Integer.MAX_VALUE};

    private ShipsTest() {
    }

    public static void main(String[] args) {
        newObject();
        addShip();
        shipLimit();
        addBarnacle();
        barnacleLimit();
        noPlaceForBarnacle();
        giveCoins();
        lookAtShips();
        orderOnShip();
        lookAtBarnacles();
        fullExchange();
        Check.end("ShipsTest", 1, 15);
    }

    private static void newObject() {
        BarnacleExchange x = new BarnacleExchange();
        Check.is(1, "ships", 0, x::shipCount);
        Check.is(1, "barnacles", 0, x::barnacleCount);
        Check.is(1, "bids", 0, x::bidCount);
        Check.is(1, "offers", 0, x::offerCount);
        Check.is(1, "fee", 1, x::fee);
        Check.is(1, "tides", 0, x::tideCount);
        Check.is(1, "trades", 0, x::tradeCount);
        Check.is(1, "coins", 0, x::allCoins);
        Check.is(1, "coins given", 0, x::allCoinsGiven);
        Check.is(1, "consistent", true, x::isConsistent);
        Check.fails(1, "ship 0", OUT, () -> x.coinsOf(0));
        Check.fails(1, "barnacle 0", OUT, () -> x.shipOf(0));
        Check.fails(1, "output", OUT, () -> x.outputAt(0));
        Check.fails(1, "undo", IllegalStateException.class, x::undo);
        Check.fails(1, "snapshot", IllegalStateException.class, x::restoreSnapshot);
    }

    private static void addShip() {
        BarnacleExchange x = new BarnacleExchange();
        Check.is(2, "least values", 0, () -> x.addShip(0, 1));
        Check.is(2, "greatest values", 1, () -> x.addShip(99, 5));
        Check.fails(2, "coins -1", ILLEGAL, () -> x.addShip(-1, 3));
        Check.fails(2, "coins 100", ILLEGAL, () -> x.addShip(100, 3));
        Check.fails(2, "capacity 0", ILLEGAL, () -> x.addShip(5, 0));
        Check.fails(2, "capacity 6", ILLEGAL, () -> x.addShip(5, 6));
        Check.fails(2, "capacity far out", ILLEGAL, () -> x.addShip(5, Integer.MIN_VALUE));
        Check.is(2, "ships after wrong calls", 2, x::shipCount);
        Check.is(2, "coins", 99, () -> x.coinsOf(1));
        Check.is(2, "capacity", 5, () -> x.capacityOf(1));
        Check.is(2, "coins of the first", 0, () -> x.coinsOf(0));
        Check.is(2, "capacity of the first", 1, () -> x.capacityOf(0));
        Check.is(2, "coins given", 99, x::allCoinsGiven);
    }

    private static void shipLimit() {
        BarnacleExchange x = new BarnacleExchange();
        for (int ship = 0; ship < 6; ship++) {
            int number = ship;
            Check.is(2, "ship " + ship, number, () -> x.addShip(number, 2));
        }
        Check.fails(2, "a wrong argument ahead of the rejection", ILLEGAL, () -> x.addShip(100, 2));
        Check.fails(2, "no rejection yet", NONE, x::rejectionReason);
        Check.rejects(2, "a seventh ship", x, BarnacleExchange.SHIP_LIMIT, 6, () -> x.addShip(7, 2));
        Check.is(2, "ships", 6, x::shipCount);
        Check.is(2, "coins given", 15, x::allCoinsGiven);
    }

    private static void addBarnacle() {
        BarnacleExchange x = new BarnacleExchange();
        Check.fails(3, "no ships", OUT, () -> x.addBarnacle(0, 1));
        x.addShip(10, 5);
        x.addShip(10, 5);
        Check.is(3, "least grade", 0, () -> x.addBarnacle(1, 1));
        Check.is(3, "greatest grade", 1, () -> x.addBarnacle(0, 9));
        for (int ship : NO_SHIPS) {
            Check.fails(3, "ship " + ship, OUT, () -> x.addBarnacle(ship, 1));
            Check.fails(3, "ship and grade, ship " + ship, OUT, () -> x.addBarnacle(ship, 0));
        }
        Check.fails(3, "grade 0", ILLEGAL, () -> x.addBarnacle(0, 0));
        Check.fails(3, "grade 10", ILLEGAL, () -> x.addBarnacle(0, 10));
        Check.fails(3, "grade -1", ILLEGAL, () -> x.addBarnacle(0, -1));
        Check.is(3, "barnacles", 2, x::barnacleCount);
        Check.is(3, "ship of the first", 1, () -> x.shipOf(0));
        Check.is(3, "grade of the first", 1, () -> x.gradeOf(0));
        Check.is(3, "ship of the second", 0, () -> x.shipOf(1));
        Check.is(3, "grade of the second", 9, () -> x.gradeOf(1));
    }

    private static void barnacleLimit() {
        BarnacleExchange x = new BarnacleExchange();
        for (int ship = 0; ship < 4; ship++) {
            x.addShip(5, 5);
        }
        for (int barnacle = 0; barnacle < 16; barnacle++) {
            int number = barnacle;
            Check.is(3, "barnacle " + number, number, () -> x.addBarnacle(number / 5, 1 + number % 9));
        }
        Check.fails(3, "a wrong grade ahead of the limit", ILLEGAL, () -> x.addBarnacle(3, 10));
        Check.rejects(3, "a place is free", x, BarnacleExchange.BARNACLE_LIMIT, 16, () -> x.addBarnacle(3, 1));
        Check.rejects(3, "no place is free", x, BarnacleExchange.BARNACLE_LIMIT, 16, () -> x.addBarnacle(0, 1));
        Check.is(3, "barnacles", 16, x::barnacleCount);
    }

    private static void noPlaceForBarnacle() {
        BarnacleExchange x = new BarnacleExchange();
        x.addShip(50, 3);
        x.addBarnacle(0, 4);
        x.placeBid(0, 1, 5);
        Check.is(3, "the last place", 1, () -> x.addBarnacle(0, 4));
        Check.rejects(3, "a bid keeps a place", x, BarnacleExchange.NO_PLACE, 3, () -> x.addBarnacle(0, 4));
        Check.fails(3, "a wrong grade on a full ship", ILLEGAL, () -> x.addBarnacle(0, 0));
        x.cancelBid(0);
        Check.is(3, "the place is free again", 2, () -> x.addBarnacle(0, 4));
        Check.rejects(3, "full of barnacles", x, BarnacleExchange.NO_PLACE, 3, () -> x.addBarnacle(0, 4));
    }

    private static void giveCoins() {
        BarnacleExchange x = new BarnacleExchange();
        Check.fails(4, "no ships", OUT, () -> x.giveCoins(0, 1));
        x.addShip(90, 1);
        x.addShip(0, 1);
        Check.is(4, "one coin", 91, () -> x.giveCoins(0, 1));
        Check.is(4, "99 coins", 190, () -> x.giveCoins(0, 99));
        Check.is(4, "the other ship", 7, () -> x.giveCoins(1, 7));
        for (int ship : NO_SHIPS) {
            Check.fails(4, "ship " + ship, OUT, () -> x.giveCoins(ship, 1));
            Check.fails(4, "ship and coins, ship " + ship, OUT, () -> x.giveCoins(ship, 100));
        }
        Check.fails(4, "0 coins", ILLEGAL, () -> x.giveCoins(0, 0));
        Check.fails(4, "100 coins", ILLEGAL, () -> x.giveCoins(0, 100));
        Check.fails(4, "-1 coins", ILLEGAL, () -> x.giveCoins(0, -1));
        Check.is(4, "coins of the ship", 190, () -> x.coinsOf(0));
        Check.is(4, "all coins given", 197, x::allCoinsGiven);
        Check.is(4, "all coins", 197, x::allCoins);
    }

    private static void lookAtShips() {
        BarnacleExchange x = new BarnacleExchange();
        Check.is(5, "no ships", 0, x::shipCount);
        x.addShip(50, 5);
        Check.is(5, "one ship", 1, x::shipCount);
        x.addShip(20, 2);
        Check.is(5, "two ships", 2, x::shipCount);
        x.addBarnacle(0, 3);
        x.addBarnacle(0, 3);
        x.addBarnacle(1, 3);
        x.placeBid(0, 1, 20);
        x.placeBid(0, 1, 11);
        Check.is(6, "reserved coins included", 50, () -> x.coinsOf(0));
        Check.is(6, "coins of the other ship", 20, () -> x.coinsOf(1));
        Check.is(7, "two bids", 31, () -> x.reservedCoins(0));
        Check.is(7, "no bids", 0, () -> x.reservedCoins(1));
        Check.is(8, "capacity", 5, () -> x.capacityOf(0));
        Check.is(8, "capacity of the other ship", 2, () -> x.capacityOf(1));
        Check.is(9, "load without bids", 2, () -> x.loadOf(0));
        Check.is(9, "load of the other ship", 1, () -> x.loadOf(1));
        Check.is(10, "barnacles and bids", 1, () -> x.freePlaces(0));
        Check.is(10, "barnacles alone", 1, () -> x.freePlaces(1));
        x.cancelBid(0);
        Check.is(7, "after a cancel", 11, () -> x.reservedCoins(0));
        Check.is(10, "after a cancel", 2, () -> x.freePlaces(0));
        for (int ship : NO_SHIPS) {
            Check.fails(6, "ship " + ship, OUT, () -> x.coinsOf(ship));
            Check.fails(7, "ship " + ship, OUT, () -> x.reservedCoins(ship));
            Check.fails(8, "ship " + ship, OUT, () -> x.capacityOf(ship));
            Check.fails(9, "ship " + ship, OUT, () -> x.loadOf(ship));
            Check.fails(10, "ship " + ship, OUT, () -> x.freePlaces(ship));
            Check.fails(11, "ship " + ship, OUT, () -> x.barnacleAt(ship, 0));
            Check.fails(11, "ship and position, ship " + ship, OUT, () -> x.barnacleAt(ship, -1));
        }
    }

    private static void orderOnShip() {
        BarnacleExchange x = new BarnacleExchange();
        x.addShip(0, 5);
        x.addShip(0, 2);
        x.addBarnacle(0, 3);
        x.addBarnacle(1, 9);
        x.addBarnacle(0, 7);
        x.addBarnacle(0, 3);
        x.addBarnacle(0, 8);
        int[] due = {4, 2, 0, 3};
        for (int position = 0; position < 4; position++) {
            int at = position;
            Check.is(11, "position " + at, due[at], () -> x.barnacleAt(0, at));
        }
        Check.is(11, "the other ship", 1, () -> x.barnacleAt(1, 0));
        Check.fails(11, "position 4 of 4", NONE, () -> x.barnacleAt(0, 4));
        Check.fails(11, "position 1 of 1", NONE, () -> x.barnacleAt(1, 1));
        Check.fails(11, "position -1", NONE, () -> x.barnacleAt(0, -1));
        Check.fails(11, "position far out", NONE, () -> x.barnacleAt(0, Integer.MAX_VALUE));
    }

    private static void fullExchange() {
        BarnacleExchange x = new BarnacleExchange();
        for (int ship = 0; ship < 6; ship++) {
            x.addShip(10 + ship, 5);
        }
        for (int barnacle = 0; barnacle < 16; barnacle++) {
            x.addBarnacle(barnacle % 6, 1 + barnacle % 9);
            x.placeOffer(barnacle, 50);
        }
        // Ship 3 has barnacles 3, 9 and 15 with the grades 4, 1 and 7.
        Check.is(9, "load", 3, () -> x.loadOf(3));
        Check.is(11, "the first", 15, () -> x.barnacleAt(3, 0));
        Check.is(11, "the second", 3, () -> x.barnacleAt(3, 1));
        Check.is(11, "the third", 9, () -> x.barnacleAt(3, 2));
        Check.fails(11, "no fourth", NONE, () -> x.barnacleAt(3, 3));
        Check.is(13, "ship of the last", 3, () -> x.shipOf(15));
        Check.is(14, "grade of the last", 7, () -> x.gradeOf(15));
        Check.is(15, "the last is offered", true, () -> x.isOffered(15));
        Check.fails(13, "no 17th", OUT, () -> x.shipOf(16));
        Check.is(2, "all coins", 75, x::allCoins);
        Check.is(2, "consistent", true, x::isConsistent);
        for (int ship = 0; ship < 6; ship++) {
            x.placeBid(ship, 1, 2);
        }
        Check.is(2, "consistent with bids", true, x::isConsistent);
        // Ship 2 has the grades 3, 9 and 6, so its wealth is 30.
        Check.is(2, "the wealthiest", 2, () -> x.shipByWealth(0));
    }

    private static void lookAtBarnacles() {
        BarnacleExchange x = new BarnacleExchange();
        x.addShip(30, 3);
        x.addShip(30, 3);
        Check.is(12, "no barnacles", 0, x::barnacleCount);
        x.addBarnacle(1, 5);
        x.addBarnacle(0, 6);
        Check.is(12, "two barnacles", 2, x::barnacleCount);
        Check.is(13, "ship of 0", 1, () -> x.shipOf(0));
        Check.is(13, "ship of 1", 0, () -> x.shipOf(1));
        Check.is(14, "grade of 0", 5, () -> x.gradeOf(0));
        Check.is(14, "grade of 1", 6, () -> x.gradeOf(1));
        Check.is(15, "not offered", false, () -> x.isOffered(1));
        x.placeOffer(1, 9);
        Check.is(15, "offered", true, () -> x.isOffered(1));
        Check.is(15, "the other one", false, () -> x.isOffered(0));
        x.placeBid(1, 1, 9);
        x.passTide();
        Check.is(13, "moved by a trade", 1, () -> x.shipOf(1));
        Check.is(14, "grade after a trade", 6, () -> x.gradeOf(1));
        Check.is(15, "traded", false, () -> x.isOffered(1));
        for (int barnacle : new int[] {-1, 2, 16, Integer.MIN_VALUE, Integer.MAX_VALUE}) {
            Check.fails(13, "barnacle " + barnacle, OUT, () -> x.shipOf(barnacle));
            Check.fails(14, "barnacle " + barnacle, OUT, () -> x.gradeOf(barnacle));
            Check.fails(15, "barnacle " + barnacle, OUT, () -> x.isOffered(barnacle));
        }
    }
}
