/** The sentences on ships and barnacles: those of the terms, and promises 1 to 15. */
final class EdgesOfShips extends Edges {
    private static final String SHIP = "`ship`: the index of a ship";
    private static final String NO_SHIP = "Throws `IndexOutOfBoundsException` if there is no such ship";
    private static final String BARNACLE = "`barnacle`: the index of a barnacle";
    private static final String NO_BARNACLE = "Throws `IndexOutOfBoundsException` if there is no such barnacle";

    private EdgesOfShips() {
    }

    static void show() {
        terms();
        newObject();
        addShip();
        addBarnacle();
        giveCoins();
        shipCount();
        coinsOf();
        reservedCoins();
        capacityOf();
        loadOf();
        freePlaces();
        barnacleAt();
        barnacleCount();
        shipOf();
        gradeOf();
        isOffered();
    }

    /** The first and the last ship are taken; Scenes.ships says what they have. */
    static void shipIndex(int promise, Numbered call, Numbered due) {
        shows(promise, SHIP, () -> {
            for (int count : new int[] {1, 2, 6}) {
                for (int ship = 0; ship < count; ship++) {
                    BarnacleExchange x = Scenes.ships(count).make();
                    int index = ship;
                    is("ship " + ship + " of " + count, due.on(x, index), () -> call.on(x, index));
                }
            }
        });
        shows(promise, NO_SHIP, () -> {
            for (int count : new int[] {0, 1, 5, 6}) {
                for (int ship : new int[] {-1, count, count + 1, Integer.MIN_VALUE, Integer.MAX_VALUE}) {
                    refused("ship " + ship + " of " + count, OUT, Scenes.ships(count), x -> call.on(x, ship));
                }
            }
            refused("ship 6 of 6", OUT, Scenes.FULL, x -> call.on(x, 6));
            refused("a ship that is undone", OUT, () -> {
                BarnacleExchange x = Scenes.ships(2).make();
                x.addShip(9, 5);
                x.undo();
                return x;
            }, x -> call.on(x, 2));
        });
    }

    /** The first and the last barnacle are taken; Scenes.barnacles says what they have. */
    static void barnacleIndex(int promise, Numbered call, Numbered due) {
        shows(promise, BARNACLE, () -> {
            for (int count : new int[] {1, 2, 16}) {
                for (int barnacle = 0; barnacle < count; barnacle++) {
                    BarnacleExchange x = Scenes.barnacles(count).make();
                    int index = barnacle;
                    is("barnacle " + index + " of " + count, due.on(x, index), () -> call.on(x, index));
                }
            }
        });
        shows(promise, NO_BARNACLE, () -> {
            for (int count : new int[] {0, 1, 15, 16}) {
                for (int barnacle : new int[] {-1, count, count + 1, Integer.MIN_VALUE, Integer.MAX_VALUE}) {
                    refused("barnacle " + barnacle + " of " + count, OUT, Scenes.barnacles(count),
                            x -> call.on(x, barnacle));
                }
            }
            refused("barnacle 16 of 16", OUT, Scenes.FULL, x -> call.on(x, 16));
            refused("a barnacle that is undone", OUT, () -> {
                BarnacleExchange x = Scenes.barnacles(2).make();
                x.addBarnacle(0, 9);
                x.undo();
                return x;
            }, x -> call.on(x, 2));
        });
    }

    private static void terms() {
        shows(0, "A barnacle rides on one ship.", () -> {
            for (Picture.Scene scene : new Picture.Scene[] {Scenes.BUSY, Scenes.FULL}) {
                int barnacles = scene.make().barnacleCount();
                for (int barnacle = 0; barnacle < barnacles; barnacle++) {
                    int index = barnacle;
                    is("barnacle " + index + " is in one place", 1, () -> placesOf(scene.make(), index));
                }
            }
        });
        shows(0, "There are at most 6 ships and 16 barnacles, each numbered from 0 in the order in which they are added;"
                + " they are never removed.", () -> {
            BarnacleExchange x = new BarnacleExchange();
            for (int ship = 0; ship < 6; ship++) {
                int number = ship;
                is("ship " + number, number, () -> x.addShip(number, 5));
            }
            fails("a seventh ship", REJECTED, () -> x.addShip(0, 5));
            for (int barnacle = 0; barnacle < 16; barnacle++) {
                int number = barnacle;
                is("barnacle " + number, number, () -> x.addBarnacle(number % 6, 1 + number % 9));
            }
            fails("a seventeenth barnacle", REJECTED, () -> x.addBarnacle(5, 1));
            is("ships", 6, x::shipCount);
            is("barnacles", 16, x::barnacleCount);
            x.placeOffer(15, 1);
            x.placeBid(4, 7, 4);
            x.passTide();
            is("ships after a trade", 6, x::shipCount);
            is("barnacles after a trade", 16, x::barnacleCount);
            is("the first ship", 0, () -> x.coinsOf(0));
            is("the last ship", 5, () -> x.coinsOf(5));
            is("the first barnacle", 1, () -> x.gradeOf(0));
            is("the last barnacle", 7, () -> x.gradeOf(15));
        });
        shows(0, "A ship has coins and a capacity.", () -> {
            BarnacleExchange x = new BarnacleExchange();
            x.addShip(99, 1);
            x.addShip(0, 5);
            is("coins", 99, () -> x.coinsOf(0));
            is("capacity", 1, () -> x.capacityOf(0));
            is("no coins", 0, () -> x.coinsOf(1));
            is("the greatest capacity", 5, () -> x.capacityOf(1));
        });
        shows(0, "A barnacle has a grade and is on one ship.", () -> {
            BarnacleExchange x = Scenes.ships(2).make();
            x.addBarnacle(1, 9);
            is("grade", 9, () -> x.gradeOf(2));
            is("ship", 1, () -> x.shipOf(2));
            is("not on the other ship", 1, () -> x.loadOf(0));
            is("on its ship", 2, () -> x.loadOf(1));
        });
    }

    private static int placesOf(BarnacleExchange x, int barnacle) {
        int places = 0;
        for (int ship = 0; ship < x.shipCount(); ship++) {
            for (int position = 0; position < x.loadOf(ship); position++) {
                if (x.barnacleAt(ship, position) == barnacle) {
                    places += ship == x.shipOf(barnacle) ? 1 : 100;
                }
            }
        }
        return places;
    }

    private static void newObject() {
        shows(1, "Creates an exchange without ships.", () -> {
            gives("no ships", 0, BarnacleExchange::shipCount);
            gives("the first ship", 0, x -> x.addShip(5, 5));
            for (int ship : new int[] {-1, 0, 1}) {
                none(OUT, x -> x.addBarnacle(ship, 1), x -> x.giveCoins(ship, 1), x -> x.coinsOf(ship),
                        x -> x.reservedCoins(ship), x -> x.capacityOf(ship), x -> x.loadOf(ship),
                        x -> x.freePlaces(ship), x -> x.barnacleAt(ship, 0), x -> x.placeBid(ship, 1, 1),
                        x -> x.writeShip(ship));
                none(OUT, x -> x.shipOf(ship), x -> x.gradeOf(ship), x -> x.isOffered(ship),
                        x -> x.placeOffer(ship, 1), x -> x.outputAt(ship));
                none(NONE, x -> x.cancelBid(ship), x -> x.shipOfBid(ship), x -> x.gradeOfBid(ship),
                        x -> x.priceOfBid(ship), x -> x.ageOfBid(ship), x -> x.matchFor(ship),
                        x -> x.matchByBarnacles(ship), x -> x.bidAt(ship));
                none(NONE, x -> x.cancelOffer(ship), x -> x.barnacleOfOffer(ship), x -> x.priceOfOffer(ship),
                        x -> x.ageOfOffer(ship), x -> x.offerAt(ship), x -> x.shipByWealth(ship));
                none(NONE, x -> x.buyerOf(ship), x -> x.sellerOf(ship), x -> x.barnacleOf(ship), x -> x.priceOf(ship));
            }
            none(NONE, BarnacleExchange::spread, BarnacleExchange::syntaxErrorOffset, BarnacleExchange::rejectionReason,
                    BarnacleExchange::rejectionDetail, BarnacleExchange::causeReason);
            none(STATE, BarnacleExchange::undo, BarnacleExchange::restoreSnapshot);
            none(NO_NUMBER, BarnacleExchange::meanPrice, BarnacleExchange::offeredShare);
            none(ILLEGAL, BarnacleExchange::execute);
            zero(BarnacleExchange::barnacleCount, BarnacleExchange::bidCount, BarnacleExchange::offerCount,
                    BarnacleExchange::passTide, BarnacleExchange::wouldTrade, BarnacleExchange::tideCount,
                    BarnacleExchange::tradeCount, BarnacleExchange::turnover, BarnacleExchange::exchangeCoins,
                    BarnacleExchange::expiredCount, BarnacleExchange::allCoins, BarnacleExchange::allCoinsGiven,
                    BarnacleExchange::saveSnapshot);
            gives("the fee", 1, BarnacleExchange::fee);
            gives("consistent", true, BarnacleExchange::isConsistent);
            gives("the first character", 1, x -> x.appendInput('~'));
        });
    }

    private static void gives(String what, Object want, Act act) {
        is(what, want, () -> act.on(new BarnacleExchange()));
    }

    private static void none(Class<? extends RuntimeException> want, Act... acts) {
        for (int i = 0; i < acts.length; i++) {
            Act act = acts[i];
            fails("call " + i + " for " + want.getSimpleName(), want, () -> act.on(new BarnacleExchange()));
        }
    }

    private static void zero(Act... acts) {
        for (int i = 0; i < acts.length; i++) {
            gives("call " + i + " for 0", 0, acts[i]);
        }
    }

    private static void addShip() {
        shows(2, "Adds a ship.", () -> {
            changes("a ship", Scenes.BUSY, x -> x.addShip(7, 4), "data", "changes");
            BarnacleExchange x = after(Scenes.BUSY, y -> y.addShip(7, 4));
            is("ships", 4, x::shipCount);
            is("coins", 7, () -> x.coinsOf(3));
            is("capacity", 4, () -> x.capacityOf(3));
            is("no barnacles", 0, () -> x.loadOf(3));
            is("no bids", 0, () -> x.reservedCoins(3));
            is("free places", 4, () -> x.freePlaces(3));
        });
        range(2, "`coins`: the coins of the ship, 0 to 99", 0, 99, Scenes.ships(1), (x, coins) -> {
            x.addShip(coins, 3);
            return x.coinsOf(1);
        });
        range(2, "`capacity`: the capacity of the ship, 1 to 5", 1, 5, Scenes.ships(1), (x, capacity) -> {
            x.addShip(7, capacity);
            return x.capacityOf(1);
        });
        shows(2, "Returns the index of the ship.", () -> {
            for (int ships = 0; ships < 6; ships++) {
                BarnacleExchange x = Scenes.ships(ships).make();
                is("after " + ships, ships, () -> x.addShip(0, 1));
            }
        });
        shows(2, "Throws `IllegalArgumentException` if coins or capacity is out of range", () -> {
            refused("coins -1", ILLEGAL, Scenes.BUSY, x -> x.addShip(-1, 1));
            refused("coins 100", ILLEGAL, Scenes.BUSY, x -> x.addShip(100, 5));
            refused("capacity 0", ILLEGAL, Scenes.BUSY, x -> x.addShip(0, 0));
            refused("capacity 6", ILLEGAL, Scenes.BUSY, x -> x.addShip(99, 6));
            refused("both too small", ILLEGAL, Scenes.BUSY, x -> x.addShip(-1, 0));
            refused("both too large", ILLEGAL, Scenes.BUSY, x -> x.addShip(100, 6));
        });
        shows(2, "Throws `UnsupportedOperationException` if the call is rejected with the reason SHIP_LIMIT", () -> {
            refused("6 ships", REJECTED, Scenes.ships(6), x -> x.addShip(0, 1), "rejection");
            BarnacleExchange x = Scenes.ships(5).make();
            is("5 ships", 5, () -> x.addShip(0, 1));
            rejects("6 ships", x, BarnacleExchange.SHIP_LIMIT, 6, () -> x.addShip(0, 1));
            x.undo();
            is("5 ships again", 5, () -> x.addShip(0, 1));
        });
    }

    private static void addBarnacle() {
        shows(3, "Adds a barnacle to a ship.", () -> {
            changes("a barnacle", Scenes.BUSY, x -> x.addBarnacle(1, 6), "data", "changes");
            BarnacleExchange x = after(Scenes.BUSY, y -> y.addBarnacle(1, 6));
            is("barnacles", 6, x::barnacleCount);
            is("ship", 1, () -> x.shipOf(5));
            is("grade", 6, () -> x.gradeOf(5));
            is("not offered", false, () -> x.isOffered(5));
            is("load", 3, () -> x.loadOf(1));
        });
        shipIndex(3, (x, ship) -> x.addBarnacle(ship, 1), (x, ship) -> x.barnacleCount());
        range(3, "`grade`: the grade, 1 to 9", 1, 9, Scenes.ships(2), (x, grade) -> {
            x.addBarnacle(1, grade);
            return x.gradeOf(2);
        });
        shows(3, "Returns the index of the barnacle.", () -> {
            for (int barnacles = 0; barnacles < 16; barnacles++) {
                BarnacleExchange x = Scenes.barnacles(barnacles).make();
                is("after " + barnacles, barnacles, () -> x.addBarnacle(3, 1));
            }
        });
        shows(3, "Throws `IllegalArgumentException` if grade is out of range", () -> {
            refused("grade 0", ILLEGAL, Scenes.BUSY, x -> x.addBarnacle(0, 0));
            refused("grade 10", ILLEGAL, Scenes.BUSY, x -> x.addBarnacle(0, 10));
        });
        shows(3, "Throws `UnsupportedOperationException` if the call is rejected with the reason BARNACLE_LIMIT or"
                + " NO_PLACE", () -> {
            refused("16 barnacles", REJECTED, Scenes.barnacles(16), x -> x.addBarnacle(3, 1), "rejection");
            BarnacleExchange x = Scenes.barnacles(15).make();
            rejects("a full ship", x, BarnacleExchange.NO_PLACE, 5, () -> x.addBarnacle(2, 1));
            is("15 barnacles", 15, () -> x.addBarnacle(3, 1));
            rejects("16 barnacles", x, BarnacleExchange.BARNACLE_LIMIT, 16, () -> x.addBarnacle(3, 1));
            x.undo();
            is("15 barnacles again", 15, () -> x.addBarnacle(3, 1));
            refused("no free place", REJECTED, Scenes.barnacles(5), y -> y.addBarnacle(0, 1), "rejection");
            BarnacleExchange y = Scenes.ships(1).make();
            is("one free place", 1, () -> y.addBarnacle(0, 1));
            rejects("a bid and two barnacles", y, BarnacleExchange.NO_PLACE, 3, () -> y.addBarnacle(0, 1));
        });
    }

    private static void giveCoins() {
        shows(4, "Gives coins to a ship.", () -> {
            changes("coins", Scenes.BUSY, x -> x.giveCoins(2, 5), "data", "changes");
            BarnacleExchange x = after(Scenes.BUSY, y -> y.giveCoins(2, 5));
            is("coins of the ship", 13, () -> x.coinsOf(2));
            is("coins given", 90 + 60 + 8 + 9 + 5, x::allCoinsGiven);
        });
        shipIndex(4, (x, ship) -> x.giveCoins(ship, 1), (x, ship) -> 11 + ship);
        range(4, "`coins`: the number of coins, 1 to 99", 1, 99, Scenes.ships(2),
                (x, coins) -> x.giveCoins(1, coins) - 11);
        shows(4, "Returns the coins of the ship after the call.", () -> {
            BarnacleExchange x = new BarnacleExchange();
            x.addShip(0, 5);
            for (int i = 1; i < 20; i++) {
                int times = i;
                is("99 coins, " + times + " times", 99 * times, () -> x.giveCoins(0, 99));
            }
            x.placeBid(0, 1, 99);
            is("reserved ones included", 1882, () -> x.giveCoins(0, 1));
        });
        shows(4, "Throws `IllegalArgumentException` if coins is out of range", () -> {
            refused("0 coins", ILLEGAL, Scenes.BUSY, x -> x.giveCoins(2, 0));
            refused("100 coins", ILLEGAL, Scenes.BUSY, x -> x.giveCoins(2, 100));
            refused("-1 coins", ILLEGAL, Scenes.BUSY, x -> x.giveCoins(2, -1));
        });
    }

    private static void shipCount() {
        shows(5, "Returns the number of ships.", () -> {
            for (int ships = 0; ships <= 6; ships++) {
                is("" + ships, ships, Scenes.ships(ships).make()::shipCount);
            }
            is("after a rejection", 6, after(Scenes.ships(6), x -> x.addShip(1, 1))::shipCount);
            is("after a wrong argument", 2, after(Scenes.ships(2), x -> x.addShip(1, 0))::shipCount);
        });
    }

    private static void coinsOf() {
        shows(6, "Returns the coins of a ship, reserved ones included.", () -> {
            BarnacleExchange x = new BarnacleExchange();
            x.addShip(9, 5);
            is("no bids", 9, () -> x.coinsOf(0));
            x.placeBid(0, 9, 9);
            is("all reserved", 9, () -> x.coinsOf(0));
        });
        shipIndex(6, BarnacleExchange::coinsOf, (x, ship) -> 10 + ship);
        shows(6, "Returns the coins.", () -> {
            BarnacleExchange x = Scenes.BUSY.make();
            is("after a purchase", 90 - 12, () -> x.coinsOf(0));
            is("after a sale with a fee of 2, and 9 coins", 60 + 12 - 2 + 9, () -> x.coinsOf(1));
            is("neither", 8, () -> x.coinsOf(2));
        });
    }

    private static void reservedCoins() {
        shows(7, "Returns the coins that are reserved for the bids of a ship.", () -> {
            BarnacleExchange x = Scenes.BUSY.make();
            is("two bids", 25, () -> x.reservedCoins(0));
            is("one bid", 40, () -> x.reservedCoins(1));
            is("no bids", 0, () -> x.reservedCoins(2));
        });
        shipIndex(7, BarnacleExchange::reservedCoins, (x, ship) -> 1 + ship);
        shows(7, "Returns the sum of the prices of its open bids.", () -> {
            BarnacleExchange x = Scenes.bids(10).make();
            is("five bids of ship 0", 5 + 7 + 9 + 11 + 13, () -> x.reservedCoins(0));
            is("five bids of ship 1", 6 + 8 + 10 + 12 + 14, () -> x.reservedCoins(1));
            is("no bids", 0, () -> x.reservedCoins(2));
            x.cancelBid(4);
            is("four bids", 36, () -> x.reservedCoins(0));
            // Offer 1 is traded with bid 9 of ship 1, and offer 0 with bid 7.
            x.passTide();
            is("two are traded", 6 + 8 + 10, () -> x.reservedCoins(1));
            x.passTide();
            is("of age 2", 24, () -> x.reservedCoins(1));
            x.passTide();
            is("expired", 0, () -> x.reservedCoins(1));
        });
    }

    private static void capacityOf() {
        shows(8, "Returns the capacity of a ship.", () -> {
            for (int capacity = 1; capacity <= 5; capacity++) {
                BarnacleExchange x = new BarnacleExchange();
                x.addShip(50, capacity);
                is("" + capacity, capacity, () -> x.capacityOf(0));
            }
        });
        shipIndex(8, BarnacleExchange::capacityOf, (x, ship) -> 3 + ship % 3);
        shows(8, "Returns the capacity.", () -> {
            is("a full ship", 5, () -> Scenes.FULL.make().capacityOf(0));
            is("a full ship of 1", 1, () -> Scenes.FULL.make().capacityOf(5));
            is("after a sale", 5, () -> Scenes.BUSY.make().capacityOf(1));
            is("after a purchase", 5, () -> Scenes.BUSY.make().capacityOf(0));
        });
    }

    private static void loadOf() {
        shows(9, "Returns the number of barnacles of a ship.", () -> {
            BarnacleExchange x = Scenes.BUSY.make();
            is("its own and a bought one", 2, () -> x.loadOf(0));
            is("one of three sold", 2, () -> x.loadOf(1));
        });
        shipIndex(9, BarnacleExchange::loadOf, (x, ship) -> 1);
        shows(9, "Returns the number of barnacles.", () -> {
            for (int load = 0; load <= 5; load++) {
                int barnacles = load;
                is(load + " barnacles", load, () -> Scenes.barnacles(barnacles).make().loadOf(0));
            }
            is("bids do not count", 0, () -> Scenes.bids(10).make().loadOf(0));
        });
    }

    private static void freePlaces() {
        shows(10, "Returns the number of free places of a ship.", () -> {
            BarnacleExchange x = Scenes.FULL.make();
            for (int ship = 0; ship < 6; ship++) {
                int full = ship;
                is("no free place on ship " + ship, 0, () -> x.freePlaces(full));
            }
        });
        shipIndex(10, BarnacleExchange::freePlaces, (x, ship) -> 1 + ship % 3);
        shows(10, "Returns the capacity minus the number of barnacles minus the number of open bids.", () -> {
            BarnacleExchange x = new BarnacleExchange();
            x.addShip(50, 5);
            x.addShip(50, 1);
            is("empty", 5, () -> x.freePlaces(0));
            x.addBarnacle(0, 1);
            x.addBarnacle(1, 9);
            is("a barnacle", 4, () -> x.freePlaces(0));
            x.placeBid(0, 8, 10);
            x.placeBid(0, 8, 9);
            is("and two bids", 2, () -> x.freePlaces(0));
            x.cancelBid(1);
            is("and one bid", 3, () -> x.freePlaces(0));
            x.placeOffer(0, 9);
            is("an offer keeps the place", 3, () -> x.freePlaces(0));
            x.placeOffer(1, 9);
            is("the seller is full", 0, () -> x.freePlaces(1));
            x.passTide();
            is("a barnacle for the bid", 3, () -> x.freePlaces(0));
            is("the seller is empty", 1, () -> x.freePlaces(1));
            x.placeBid(0, 9, 1);
            x.passTide();
            x.passTide();
            is("a bid of age 2", 2, () -> x.freePlaces(0));
            x.passTide();
            is("it is expired", 3, () -> x.freePlaces(0));
        });
    }

    private static void barnacleAt() {
        shows(11, "Returns a barnacle of a ship.", () -> {
            BarnacleExchange x = Scenes.BUSY.make();
            is("a bought one", 0, () -> x.barnacleAt(0, 1));
            is("its own", 3, () -> x.barnacleAt(0, 0));
            is("one that is not sold", 1, () -> x.barnacleAt(1, 0));
        });
        shows(11, "Barnacles are ordered by grade, the greatest grade first, and then by index.", () -> {
            BarnacleExchange x = new BarnacleExchange();
            x.addShip(50, 5);
            x.addShip(50, 5);
            int[] grades = {1, 9, 5, 9, 5};
            for (int grade : grades) {
                x.addBarnacle(0, grade);
            }
            int[] due = {1, 3, 2, 4, 0};
            for (int position = 0; position < 5; position++) {
                int at = position;
                is("position " + at, due[at], () -> x.barnacleAt(0, at));
            }
            // A barnacle that comes later takes its place by its index, not by the order of coming.
            x.placeOffer(2, 5);
            x.placeBid(1, 5, 5);
            x.passTide();
            x.placeOffer(2, 5);
            x.placeBid(0, 5, 5);
            x.passTide();
            is("it is back", 0, () -> x.shipOf(2));
            for (int position = 0; position < 5; position++) {
                int at = position;
                is("position " + at + " after two trades", due[at], () -> x.barnacleAt(0, at));
            }
        });
        shipIndex(11, (x, ship) -> x.barnacleAt(ship, 0), (x, ship) -> ship);
        shows(11, "`position`: the position, from 0", () -> {
            is("the only one", 0, () -> Scenes.barnacles(1).make().barnacleAt(0, 0));
            is("the first of 5", 4, () -> Scenes.barnacles(5).make().barnacleAt(0, 0));
            is("the last of 5", 0, () -> Scenes.barnacles(5).make().barnacleAt(0, 4));
        });
        shows(11, "Returns the index of the barnacle.", () -> {
            BarnacleExchange x = Scenes.FULL.make();
            is("the first", 0, () -> Scenes.barnacles(16).make().barnacleAt(0, 4));
            is("the last", 15, () -> Scenes.barnacles(16).make().barnacleAt(3, 0));
            is("the one on ship 5", 6, () -> x.barnacleAt(5, 0));
        });
        shows(11, "Throws `NoSuchElementException` if there is no such position", () -> {
            for (int load = 0; load <= 5; load++) {
                for (int position : new int[] {-1, load, load + 1, Integer.MIN_VALUE, Integer.MAX_VALUE}) {
                    refused("position " + position + " of " + load, NONE, Scenes.barnacles(load),
                            x -> x.barnacleAt(0, position));
                }
            }
            refused("a bid is no barnacle", NONE, Scenes.ships(2), x -> x.barnacleAt(1, 1));
        });
    }

    private static void barnacleCount() {
        shows(12, "Returns the number of barnacles.", () -> {
            for (int barnacles = 0; barnacles <= 16; barnacles++) {
                is("" + barnacles, barnacles, Scenes.barnacles(barnacles).make()::barnacleCount);
            }
            is("after a rejection", 16, after(Scenes.barnacles(16), x -> x.addBarnacle(3, 1))::barnacleCount);
            is("after a trade", 5, Scenes.BUSY.make()::barnacleCount);
        });
    }

    private static void shipOf() {
        shows(13, "Returns the ship of a barnacle.", () -> {
            BarnacleExchange x = Scenes.BUSY.make();
            is("a bought one", 0, () -> x.shipOf(0));
            is("one that is not sold", 1, () -> x.shipOf(1));
        });
        barnacleIndex(13, BarnacleExchange::shipOf, (x, barnacle) -> barnacle / 5);
        shows(13, "Returns the index of the ship.", () -> {
            is("the first ship", 0, () -> Scenes.FULL.make().shipOf(15));
            is("the last ship", 5, () -> Scenes.FULL.make().shipOf(6));
        });
    }

    private static void gradeOf() {
        shows(14, "Returns the grade of a barnacle.", () -> {
            is("a bought one", 4, () -> Scenes.BUSY.make().gradeOf(0));
            is("its own", 7, () -> Scenes.BUSY.make().gradeOf(3));
        });
        barnacleIndex(14, BarnacleExchange::gradeOf, (x, barnacle) -> 1 + barnacle % 9);
        shows(14, "Returns the grade.", () -> {
            for (int grade = 1; grade <= 9; grade++) {
                BarnacleExchange x = Scenes.ships(1).make();
                x.addBarnacle(0, grade);
                is("" + grade, grade, () -> x.gradeOf(1));
            }
        });
    }

    private static void isOffered() {
        shows(15, "Tells whether there is an open offer for a barnacle.", () -> {
            BarnacleExchange x = Scenes.barnacles(1).make();
            is("offered", true, () -> x.isOffered(0));
            x.passTide();
            x.passTide();
            is("at age 2", true, () -> x.isOffered(0));
            x.passTide();
            is("expired", false, () -> x.isOffered(0));
            x.placeOffer(0, 5);
            is("offered again", true, () -> x.isOffered(0));
            x.cancelOffer(1);
            is("cancelled", false, () -> x.isOffered(0));
            x.placeOffer(0, 5);
            x.placeBid(1, 1, 5);
            x.passTide();
            is("traded", false, () -> x.isOffered(0));
        });
        barnacleIndex(15, BarnacleExchange::isOffered, (x, barnacle) -> barnacle % 2 == 0);
        shows(15, "Returns whether it is offered.", () -> {
            BarnacleExchange x = Scenes.barnacles(2).make();
            is("it is", true, () -> x.isOffered(0));
            is("it is not", false, () -> x.isOffered(1));
        });
    }
}
