/** Exchanges on which the tests of the sentences begin, the same ones each time. */
final class Scenes {
    static final Picture.Scene EMPTY = BarnacleExchange::new;
    static final Picture.Scene BUSY = Scenes::busy;
    static final Picture.Scene FULL = Scenes::full;

    private Scenes() {
    }

    /**
     * Three ships that have traded once; bids and offers of both ages, one match, an input, an output, a rejection, a
     * syntax error and a snapshot; 8 changes can be undone.
     */
    private static BarnacleExchange busy() {
        BarnacleExchange x = new BarnacleExchange();
        x.addShip(90, 5);
        x.addShip(60, 5);
        x.addShip(8, 2);
        x.setFee(2);
        x.addBarnacle(1, 4);
        x.addBarnacle(1, 7);
        x.addBarnacle(1, 2);
        x.addBarnacle(0, 7);
        x.placeOffer(0, 10);
        x.placeBid(0, 3, 15);
        x.passTide();
        x.saveSnapshot();
        x.addBarnacle(2, 1);
        x.placeOffer(1, 30);
        x.placeBid(0, 1, 20);
        x.placeBid(1, 5, 40);
        x.passTide();
        x.placeOffer(3, 40);
        x.placeBid(0, 9, 5);
        x.setFee(3);
        x.giveCoins(1, 9);
        Check.answerOf(() -> Check.run(x, "t;?"));
        Check.answerOf(() -> x.placeBid(2, 1, 9));
        x.writeShip(1);
        Check.type(x, "f4;t");
        return x;
    }

    /**
     * All is full: 6 ships, 16 barnacles, no free place on any ship, 10 open bids, an offer for every barnacle, 11
     * trades, 60 characters of input, and 8 changes.
     */
    private static BarnacleExchange full() {
        BarnacleExchange x = new BarnacleExchange();
        for (int ship = 0; ship < 6; ship++) {
            x.addShip(99 - ship, ship < 5 ? 5 : 1);
        }
        x.addBarnacle(0, 5);
        for (int trade = 0; trade < 11; trade++) {
            x.placeOffer(0, 2 + trade);
            x.placeBid(1 - trade % 2, 1, 2 + trade + trade % 3);
            x.passTide();
        }
        x.saveSnapshot();
        // After 11 trades barnacle 0 is on ship 1, so ships 0 to 4 get 3 barnacles each, and ship 5 gets one.
        for (int barnacle = 1; barnacle < 16; barnacle++) {
            x.addBarnacle(barnacle == 6 ? 5 : barnacle % 5, 1 + barnacle % 9);
        }
        for (int bid = 0; bid < 10; bid++) {
            x.placeBid(bid % 5, 1 + bid % 4, 20 - bid / 2);
        }
        for (int barnacle = 0; barnacle < 16; barnacle++) {
            x.placeOffer(barnacle, 18 + barnacle % 5);
        }
        Check.answerOf(() -> Check.run(x, "t;?"));
        Check.answerOf(() -> x.placeBid(0, 1, 1));
        x.writeShip(2);
        Check.type(x, "f4;".repeat(19) + "t;t");
        return x;
    }

    /** Ship i has 10 + i coins, a capacity of 3 to 5, a barnacle of grade 1 + i, and a bid for 1 + i. */
    static Picture.Scene ships(int count) {
        return () -> {
            BarnacleExchange x = new BarnacleExchange();
            for (int ship = 0; ship < count; ship++) {
                x.addShip(10 + ship, 3 + ship % 3);
                x.addBarnacle(ship, 1 + ship);
                x.placeBid(ship, 9, 1 + ship);
            }
            return x;
        };
    }

    /** Barnacle i is on ship i / 5 and has the grade 1 + i % 9; those with even numbers are offered. */
    static Picture.Scene barnacles(int count) {
        return () -> {
            BarnacleExchange x = new BarnacleExchange();
            for (int ship = 0; ship < 4; ship++) {
                x.addShip(50, 5);
            }
            for (int barnacle = 0; barnacle < count; barnacle++) {
                x.addBarnacle(barnacle / 5, 1 + barnacle % 9);
            }
            for (int barnacle = 0; barnacle < count; barnacle += 2) {
                x.placeOffer(barnacle, 99);
            }
            return x;
        };
    }

    /** Bid i is placed by ship i % 2 for the grade 1 + i % 9 and the price 5 + i; each is matched with offer 1. */
    static Picture.Scene bids(int count) {
        return () -> {
            BarnacleExchange x = new BarnacleExchange();
            for (int ship = 0; ship < 3; ship++) {
                x.addShip(99, 5);
            }
            x.addBarnacle(2, 8);
            x.addBarnacle(2, 9);
            x.placeOffer(0, 6);
            x.placeOffer(1, 5);
            for (int bid = 0; bid < count; bid++) {
                x.placeBid(bid % 2, 1 + bid % 9, 5 + bid);
            }
            return x;
        };
    }

    /** Offer i is placed for barnacle count - 1 - i, which is on ship 1, 2, 3 or 4, for the price 5 + i. */
    static Picture.Scene offers(int count) {
        return () -> {
            BarnacleExchange x = new BarnacleExchange();
            for (int ship = 0; ship < 5; ship++) {
                x.addShip(99, 5);
            }
            for (int barnacle = 0; barnacle < count; barnacle++) {
                x.addBarnacle(1 + barnacle % 4, 1 + barnacle % 9);
            }
            for (int offer = 0; offer < count; offer++) {
                x.placeOffer(count - 1 - offer, 5 + offer);
            }
            return x;
        };
    }

    /** Trade i moves barnacle i % 3 from ship 4 - i / 3 to the one before, for the price 5 + i. */
    static Picture.Scene trades(int count) {
        return () -> {
            BarnacleExchange x = new BarnacleExchange();
            for (int ship = 0; ship < 5; ship++) {
                x.addShip(99, 3);
            }
            for (int barnacle = 0; barnacle < 3; barnacle++) {
                x.addBarnacle(4, 1 + barnacle);
            }
            for (int i = 0; i < count; i++) {
                x.placeOffer(i % 3, 5 + i);
                x.placeBid(3 - i / 3, 1 + i % 3, 5 + i);
                x.passTide();
            }
            return x;
        };
    }
}
