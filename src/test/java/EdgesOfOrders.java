/** The sentences on bids, offers and matching: those of the terms, and promises 16 to 33. */
final class EdgesOfOrders extends Edges {
    private static final String BID = "`bid`: the id of an open bid";
    private static final String NO_BID = "Throws `NoSuchElementException` if there is no open bid with this id";
    private static final String OFFER = "`offer`: the id of an open offer";
    private static final String NO_OFFER = "Throws `NoSuchElementException` if there is no open offer with this id";
    private static final String POSITION = "`position`: the position, from 0";
    private static final String NO_POSITION = "Throws `NoSuchElementException` if there is no such position";
    private static final String TIDES = "Returns the number of tides that have passed since it was placed, 0 to 2.";

    private EdgesOfOrders() {
    }

    static void show() {
        termsOnBids();
        termsOnOffers();
        fitting();
        placeBid();
        placeOffer();
        cancelBid();
        cancelOffer();
        counts();
        bidAt();
        offerAt();
        partsOfBids();
        partsOfOffers();
        matching();
        spread();
    }

    private static BarnacleExchange threeShips() {
        BarnacleExchange x = new BarnacleExchange();
        x.addShip(99, 5);
        x.addShip(99, 5);
        x.addShip(99, 5);
        return x;
    }

    private static void passTides(BarnacleExchange x, int tides) {
        for (int i = 0; i < tides; i++) {
            x.passTide();
        }
    }

    private static void termsOnBids() {
        shows(0, "A bid belongs to a ship, and has a lowest grade and a price.", () -> {
            BarnacleExchange x = threeShips();
            x.placeBid(2, 9, 1);
            x.placeBid(0, 1, 99);
            is("ship", 2, () -> x.shipOfBid(0));
            is("grade", 9, () -> x.gradeOfBid(0));
            is("price", 1, () -> x.priceOfBid(0));
            is("ship of the other", 0, () -> x.shipOfBid(1));
            is("grade of the other", 1, () -> x.gradeOfBid(1));
            is("price of the other", 99, () -> x.priceOfBid(1));
        });
        shows(0, "The first bid that is placed gets the id 0, and every further one gets the next greater id.", () -> {
            BarnacleExchange x = threeShips();
            is("the first", 0, () -> x.placeBid(0, 1, 9));
            is("the second", 1, () -> x.placeBid(1, 1, 8));
            x.cancelBid(1);
            is("after a cancel", 2, () -> x.placeBid(2, 1, 7));
            fails("a wrong price", ILLEGAL, () -> x.placeBid(2, 1, 100));
            fails("a rejected one", REJECTED, () -> x.placeBid(2, 1, 93));
            fails("in a script that fails", STATE, () -> Check.run(x, "b21@1;x99"));
            is("neither has an id", 3, () -> x.placeBid(2, 1, 7));
            x.addBarnacle(0, 5);
            x.placeOffer(0, 5);
            is("a trade", 1, x::passTide);
            is("after a trade", 4, () -> x.placeBid(0, 1, 1));
            passTides(x, 3);
            is("all are expired", 0, x::bidCount);
            is("after an expiry", 5, () -> x.placeBid(0, 1, 1));
            is("as a command", 1, () -> Check.run(x, "b01@1"));
            is("after a command", 7, () -> x.placeBid(0, 1, 1));
        });
        shows(0, "A bid is open until it is traded, is cancelled or expires.", () -> {
            BarnacleExchange x = threeShips();
            x.addBarnacle(0, 5);
            for (int price = 1; price <= 3; price++) {
                x.placeBid(1, 5, price);
            }
            x.placeOffer(0, 3);
            is("three", 3, x::bidCount);
            x.passTide();
            fails("traded", NONE, () -> x.priceOfBid(2));
            is("not traded", 2, () -> x.priceOfBid(1));
            x.cancelBid(0);
            fails("cancelled", NONE, () -> x.priceOfBid(0));
            x.passTide();
            is("two tides", 2, () -> x.priceOfBid(1));
            x.passTide();
            fails("three tides", NONE, () -> x.priceOfBid(1));
            is("none", 0, x::bidCount);
        });
        shows(0, "At most 10 bids are open.", () -> {
            BarnacleExchange x = Scenes.bids(9).make();
            is("the tenth", 9, () -> x.placeBid(1, 1, 14));
            is("ten", 10, x::bidCount);
            fails("the eleventh", REJECTED, () -> x.placeBid(2, 1, 1));
            is("still ten", 10, x::bidCount);
            x.cancelBid(0);
            is("after a cancel", 10, () -> x.placeBid(2, 9, 1));
            fails("no room again", REJECTED, () -> x.placeBid(2, 1, 1));
            is("two trades", 2, x::passTide);
            is("after a trade", 11, () -> x.placeBid(2, 9, 1));
            is("after another", 12, () -> x.placeBid(2, 9, 1));
            fails("ten again", REJECTED, () -> x.placeBid(2, 1, 1));
            passTides(x, 1);
            fails("at age 2", REJECTED, () -> x.placeBid(2, 1, 1));
            passTides(x, 1);
            is("after they expired", 2, x::bidCount);
            is("room again", 13, () -> x.placeBid(2, 9, 1));
        });
        shows(0, "The order of bids: those with higher prices first; of the same price, those with lower ids first.",
                () -> {
            BarnacleExchange x = threeShips();
            int[] prices = {5, 9, 5, 1, 9, 5, 10};
            for (int bid = 0; bid < prices.length; bid++) {
                // The grade says nothing on the order, nor does the ship.
                x.placeBid(2 - bid % 3, 1 + bid * 5 % 9, prices[bid]);
            }
            order(x::bidAt, 6, 1, 4, 0, 2, 5, 3);
            x.cancelBid(1);
            x.placeBid(0, 9, 9);
            order(x::bidAt, 6, 4, 7, 0, 2, 5, 3);
        });
    }

    /** A call that answers what is at a position. */
    private interface Place {
        int at(int position);
    }

    private static void order(Place list, int... due) {
        for (int position = 0; position < due.length; position++) {
            int at = position;
            is("position " + at, due[at], () -> list.at(at));
        }
        fails("one position more", NONE, () -> list.at(due.length));
    }

    private static void termsOnOffers() {
        shows(0, "An offer belongs to a barnacle, and has a price.", () -> {
            BarnacleExchange x = Scenes.barnacles(1).make();
            x.cancelOffer(0);
            x.addBarnacle(3, 9);
            x.placeOffer(1, 1);
            x.placeOffer(0, 99);
            is("barnacle", 1, () -> x.barnacleOfOffer(1));
            is("price", 1, () -> x.priceOfOffer(1));
            is("barnacle of the other", 0, () -> x.barnacleOfOffer(2));
            is("price of the other", 99, () -> x.priceOfOffer(2));
        });
        shows(0, "The ids of offers are given like those of bids, but separately.", () -> {
            BarnacleExchange x = threeShips();
            for (int barnacle = 0; barnacle < 4; barnacle++) {
                x.addBarnacle(0, 5);
            }
            x.placeBid(1, 9, 1);
            is("the first after a bid", 0, () -> x.placeOffer(3, 9));
            is("a bid after an offer", 1, () -> x.placeBid(1, 9, 1));
            is("the second", 1, () -> x.placeOffer(2, 9));
            x.cancelOffer(1);
            is("after a cancel", 2, () -> x.placeOffer(2, 9));
            fails("a wrong price", ILLEGAL, () -> x.placeOffer(1, 100));
            fails("a rejected one", REJECTED, () -> x.placeOffer(2, 9));
            fails("in a script that fails", STATE, () -> Check.run(x, "o1@9;y99"));
            is("neither has an id", 3, () -> x.placeOffer(1, 9));
            x.placeBid(1, 5, 9);
            is("a trade", 1, x::passTide);
            is("after a trade", 4, () -> x.placeOffer(0, 99));
            passTides(x, 3);
            is("all are expired", 0, x::offerCount);
            is("after an expiry", 5, () -> x.placeOffer(0, 9));
            is("as a command", 1, () -> Check.run(x, "o1@9"));
            is("after a command", 7, () -> x.placeOffer(2, 9));
        });
        shows(0, "An offer is open until it is traded, is cancelled or expires.", () -> {
            BarnacleExchange x = threeShips();
            for (int price = 1; price <= 3; price++) {
                x.addBarnacle(0, 5);
                x.placeOffer(price - 1, price);
            }
            x.placeBid(1, 5, 1);
            is("three", 3, x::offerCount);
            x.passTide();
            fails("traded", NONE, () -> x.priceOfOffer(0));
            is("not traded", 2, () -> x.priceOfOffer(1));
            x.cancelOffer(2);
            fails("cancelled", NONE, () -> x.priceOfOffer(2));
            x.passTide();
            is("two tides", 2, () -> x.priceOfOffer(1));
            x.passTide();
            fails("three tides", NONE, () -> x.priceOfOffer(1));
            is("none", 0, x::offerCount);
        });
        shows(0, "There is at most one open offer for a barnacle.", () -> {
            BarnacleExchange x = threeShips();
            x.addBarnacle(0, 5);
            x.addBarnacle(0, 5);
            is("the first", 0, () -> x.placeOffer(0, 9));
            fails("a second", REJECTED, () -> x.placeOffer(0, 8));
            is("another barnacle", 1, () -> x.placeOffer(1, 20));
            is("two offers", 2, x::offerCount);
            x.cancelOffer(0);
            is("after a cancel", 2, () -> x.placeOffer(0, 9));
            x.placeBid(1, 1, 9);
            x.passTide();
            is("after a trade", 3, () -> x.placeOffer(0, 20));
            fails("a second of the new ship", REJECTED, () -> x.placeOffer(0, 20));
            passTides(x, 2);
            fails("at age 2", REJECTED, () -> x.placeOffer(0, 20));
            x.passTide();
            is("after an expiry", 4, () -> x.placeOffer(0, 20));
            is("one offer", 1, x::offerCount);
        });
        shows(0, "The order of offers: those with lower prices first; of the same price, those for barnacles with"
                + " greater grades first; of the same grade, those with lower ids first.", () -> {
            BarnacleExchange x = threeShips();
            int[] grades = {5, 5, 9, 1, 5, 9, 4, 9};
            int[] prices = {7, 7, 7, 7, 8, 8, 1, 99};
            for (int barnacle = 0; barnacle < grades.length; barnacle++) {
                x.addBarnacle(barnacle % 2, grades[barnacle]);
            }
            // Offer i is the one for barnacle 7 - i, so that of the same grade the index says nothing.
            for (int offer = 0; offer < grades.length; offer++) {
                x.placeOffer(7 - offer, prices[7 - offer]);
            }
            order(x::offerAt, 1, 5, 6, 7, 4, 2, 3, 0);
            x.cancelOffer(6);
            x.placeOffer(1, 7);
            order(x::offerAt, 1, 5, 7, 8, 4, 2, 3, 0);
        });
    }

    private static void fitting() {
        shows(0, "An offer fits a bid if the barnacle is on another ship than the one of the bid, its grade is not lower"
                + " than the grade of the bid, and the price of the offer is not higher than the price of the bid.",
                () -> {
            // The barnacle has the grade 5 and is on ship 0; its offer has the price 50.
            fit(false, 0, 5, 50);
            fit(true, 1, 5, 50);
            fit(true, 2, 5, 50);
            fit(true, 1, 4, 50);
            fit(false, 1, 6, 50);
            fit(true, 1, 5, 51);
            fit(false, 1, 5, 49);
            fit(true, 1, 1, 99);
            fit(false, 1, 9, 99);
            fit(false, 1, 1, 1);
            fit(false, 0, 1, 99);
        });
        shows(0, "A bid is matched with the first offer in the order of offers that fits it.", () -> {
            BarnacleExchange x = threeShips();
            int[] ships = {0, 1, 1, 1, 1};
            int[] grades = {9, 3, 6, 6, 9};
            int[] prices = {1, 2, 5, 5, 6};
            for (int i = 0; i < ships.length; i++) {
                x.addBarnacle(ships[i], grades[i]);
                x.placeOffer(i, prices[i]);
            }
            x.placeBid(0, 4, 6);
            matches(x, 0, 2, "its own and a low grade come first");
            x.placeBid(0, 1, 9);
            matches(x, 1, 1, "its own comes first");
            x.placeBid(2, 1, 9);
            matches(x, 2, 0, "the very first");
            x.placeBid(0, 7, 6);
            matches(x, 3, 4, "only the last");
            x.cancelOffer(2);
            matches(x, 0, 3, "the next id of the same grade");
            BarnacleExchange y = samePrices();
            for (int offer : new int[] {1, 2, 0, 3}) {
                matches(y, 0, offer, "of the same price, offer " + offer);
                y.cancelOffer(offer);
            }
        });
    }

    /** Barnacles 0 to 3 have the offers 3, 2, 1 and 0, all of the same price, and the grades 4, 6, 6 and 4. */
    private static BarnacleExchange samePrices() {
        BarnacleExchange x = threeShips();
        for (int grade : new int[] {4, 6, 6, 4}) {
            x.addBarnacle(0, grade);
        }
        for (int barnacle = 3; barnacle >= 0; barnacle--) {
            x.placeOffer(barnacle, 20);
        }
        x.placeBid(1, 1, 20);
        return x;
    }

    /** All that says whether an offer fits must say the same. */
    private static void fit(boolean does, int ship, int grade, int price) {
        BarnacleExchange x = threeShips();
        x.addBarnacle(0, 5);
        x.placeOffer(0, 50);
        x.placeBid(ship, grade, price);
        String what = "ship " + ship + ", grade " + grade + ", price " + price;
        if (does) {
            matches(x, 0, 0, what);
        } else {
            fails(what + ", matchFor", NONE, () -> x.matchFor(0));
            fails(what + ", matchByBarnacles", NONE, () -> x.matchByBarnacles(0));
        }
        is(what + ", wouldTrade", does ? 1 : 0, x::wouldTrade);
        is(what + ", passTide", does ? 1 : 0, x::passTide);
        is(what + ", the ship", does ? ship : 0, () -> x.shipOf(0));
    }

    private static void matches(BarnacleExchange x, int bid, int offer, String what) {
        is(what + ", matchFor", offer, () -> x.matchFor(bid));
        is(what + ", matchByBarnacles", offer, () -> x.matchByBarnacles(bid));
    }

    private static void placeBid() {
        shows(16, "Places a bid of a ship.", () -> {
            changes("a bid", Scenes.BUSY, x -> x.placeBid(1, 9, 39), "data", "changes");
            BarnacleExchange x = after(Scenes.BUSY, y -> y.placeBid(1, 9, 39));
            is("bids", 4, x::bidCount);
            is("ship", 1, () -> x.shipOfBid(4));
            is("age", 0, () -> x.ageOfBid(4));
        });
        shows(16, "Its price is reserved, and so is a place.", () -> {
            BarnacleExchange x = new BarnacleExchange();
            x.addShip(50, 2);
            x.placeBid(0, 1, 20);
            is("reserved", 20, () -> x.reservedCoins(0));
            is("the coins are kept", 50, () -> x.coinsOf(0));
            is("free places", 1, () -> x.freePlaces(0));
            rejects("a coin too many", x, BarnacleExchange.TOO_POOR, 30, () -> x.placeBid(0, 1, 31));
            x.placeBid(0, 1, 30);
            is("all is reserved", 50, () -> x.reservedCoins(0));
            is("no free place", 0, () -> x.freePlaces(0));
            rejects("no place for a barnacle", x, BarnacleExchange.NO_PLACE, 2, () -> x.addBarnacle(0, 1));
        });
        EdgesOfShips.shipIndex(16, (x, ship) -> x.placeBid(ship, 1, 1), (x, ship) -> x.bidCount());
        range(16, "`grade`: the lowest grade that the ship accepts, 1 to 9", 1, 9, Scenes.bids(1), (x, grade) -> {
            x.placeBid(0, grade, 5);
            return x.gradeOfBid(1);
        });
        range(16, "`price`: the highest price that it pays, 1 to 99", 1, 99, Scenes.bids(0), (x, price) -> {
            x.placeBid(0, 5, price);
            return x.priceOfBid(0);
        });
        shows(16, "Returns the id of the bid.", () -> {
            for (int bids = 0; bids < 10; bids++) {
                BarnacleExchange x = Scenes.bids(bids).make();
                is("after " + bids, bids, () -> x.placeBid(2, 1, 1));
            }
        });
        shows(16, "Throws `IllegalArgumentException` if grade or price is out of range", () -> {
            refused("grade 0", ILLEGAL, Scenes.BUSY, x -> x.placeBid(0, 0, 1));
            refused("grade 10", ILLEGAL, Scenes.BUSY, x -> x.placeBid(0, 10, 1));
            refused("price 0", ILLEGAL, Scenes.BUSY, x -> x.placeBid(0, 1, 0));
            refused("price 100", ILLEGAL, Scenes.BUSY, x -> x.placeBid(0, 1, 100));
            refused("both too small", ILLEGAL, Scenes.BUSY, x -> x.placeBid(0, 0, 0));
            refused("both too large", ILLEGAL, Scenes.BUSY, x -> x.placeBid(0, 10, 100));
        });
        shows(16, "Throws `UnsupportedOperationException` if the call is rejected with the reason BID_LIMIT, NO_PLACE or"
                + " TOO_POOR", () -> {
            refused("10 bids", REJECTED, Scenes.bids(10), x -> x.placeBid(2, 1, 1), "rejection");
            rejects("10 bids", Scenes.bids(10), BarnacleExchange.BID_LIMIT, 0, x -> x.placeBid(2, 1, 1));
            refused("no place", REJECTED, Scenes.barnacles(5), x -> x.placeBid(0, 1, 1), "rejection");
            rejects("no place", Scenes.barnacles(5), BarnacleExchange.NO_PLACE, 5, x -> x.placeBid(0, 1, 1));
            refused("too poor", REJECTED, Scenes.ships(1), x -> x.placeBid(0, 1, 10), "rejection");
            rejects("too poor", Scenes.ships(1), BarnacleExchange.TOO_POOR, 9, x -> x.placeBid(0, 1, 10));
        });
    }

    private static void placeOffer() {
        shows(17, "Places an offer for a barnacle by its ship.", () -> {
            changes("an offer", Scenes.BUSY, x -> x.placeOffer(2, 7), "data", "changes");
            BarnacleExchange x = threeShips();
            x.addBarnacle(0, 5);
            x.placeOffer(0, 10);
            x.placeBid(1, 1, 10);
            x.passTide();
            x.placeOffer(0, 20);
            x.placeBid(0, 1, 20);
            x.passTide();
            is("the second seller", 1, () -> x.sellerOf(0));
            is("it is paid", 99 - 10 + 20 - 1, () -> x.coinsOf(1));
        });
        EdgesOfShips.barnacleIndex(17, (x, barnacle) -> {
            if (barnacle >= 0 && barnacle < x.barnacleCount() && x.isOffered(barnacle)) {
                x.cancelOffer(barnacle / 2);
            }
            return x.placeOffer(barnacle, 1);
        }, (x, barnacle) -> (x.barnacleCount() + 1) / 2);
        range(17, "`price`: the lowest price that the ship accepts, 1 to 99", 1, 99, Scenes.barnacles(2),
                (x, price) -> {
            x.placeOffer(1, price);
            return x.priceOfOffer(1);
        });
        shows(17, "Returns the id of the offer.", () -> {
            for (int offers = 0; offers < 16; offers++) {
                BarnacleExchange x = Scenes.offers(offers).make();
                x.addBarnacle(0, 1);
                int barnacle = offers;
                is("after " + offers, offers, () -> x.placeOffer(barnacle, 1));
            }
        });
        shows(17, "Throws `IllegalArgumentException` if price is out of range", () -> {
            refused("price 0", ILLEGAL, Scenes.BUSY, x -> x.placeOffer(2, 0));
            refused("price 100", ILLEGAL, Scenes.BUSY, x -> x.placeOffer(2, 100));
            refused("price -1", ILLEGAL, Scenes.BUSY, x -> x.placeOffer(2, -1));
        });
        shows(17, "Throws `UnsupportedOperationException` if the call is rejected with the reason OFFERED", () -> {
            for (int count : new int[] {1, 16}) {
                int last = count - 1;
                refused("the first of " + count, REJECTED, Scenes.offers(count), x -> x.placeOffer(0, 1), "rejection");
                rejects("the first of " + count, Scenes.offers(count), BarnacleExchange.OFFERED, last,
                        x -> x.placeOffer(0, 1));
                rejects("the last of " + count, Scenes.offers(count), BarnacleExchange.OFFERED, 0,
                        x -> x.placeOffer(last, 99));
            }
        });
    }

    private static void cancelBid() {
        shows(18, "Cancels a bid.", () -> {
            changes("a cancel", Scenes.BUSY, x -> x.cancelBid(2), "data", "changes");
            BarnacleExchange x = Scenes.BUSY.make();
            x.cancelBid(1);
            fails("it is not open", NONE, () -> x.priceOfBid(1));
            is("coins are free", 5, () -> x.reservedCoins(0));
            is("a place is free", 2, () -> x.freePlaces(0));
            is("it is not expired", 0, x::expiredCount);
            is("the others are open", 40, () -> x.priceOfBid(2));
        });
        bidId(18, BarnacleExchange::cancelBid, (x, bid) -> x.bidCount() - 1);
        noBid(18, NO_BID, BarnacleExchange::cancelBid);
        shows(18, "Returns the number of open bids after the call.", () -> {
            BarnacleExchange x = Scenes.bids(10).make();
            for (int bid = 0; bid < 10; bid++) {
                int id = bid;
                is("bid " + id, 9 - id, () -> x.cancelBid(id));
            }
        });
    }

    private static void cancelOffer() {
        shows(19, "Cancels an offer.", () -> {
            changes("a cancel", Scenes.BUSY, x -> x.cancelOffer(2), "data", "changes");
            BarnacleExchange x = Scenes.BUSY.make();
            x.cancelOffer(2);
            fails("it is not open", NONE, () -> x.priceOfOffer(2));
            is("not offered", false, () -> x.isOffered(3));
            is("no trade", 0, x::passTide);
            is("it is not expired", 0, x::expiredCount);
            is("the other is open", 30, () -> x.priceOfOffer(1));
        });
        offerId(19, BarnacleExchange::cancelOffer, (x, offer) -> x.offerCount() - 1);
        noOffer(19, BarnacleExchange::cancelOffer);
        shows(19, "Returns the number of open offers after the call.", () -> {
            BarnacleExchange x = Scenes.offers(16).make();
            for (int offer = 0; offer < 16; offer++) {
                int id = offer;
                is("offer " + id, 15 - id, () -> x.cancelOffer(id));
            }
        });
    }

    /** The first and the last of the bids are taken; Scenes.bids says what they have. */
    private static void bidId(int promise, Numbered call, Numbered due) {
        shows(promise, BID, () -> {
            for (int count : new int[] {1, 2, 10}) {
                for (int bid = 0; bid < count; bid++) {
                    BarnacleExchange x = Scenes.bids(count).make();
                    int id = bid;
                    is("bid " + id + " of " + count, due.on(x, id), () -> call.on(x, id));
                }
            }
        });
    }

    private static void noBid(int promise, String sentence, Numbered call) {
        shows(promise, sentence, () -> {
            for (int count : new int[] {0, 1, 10}) {
                for (int bid : new int[] {-1, count, count + 1, Integer.MIN_VALUE, Integer.MAX_VALUE}) {
                    refused("bid " + bid + " of " + count, NONE, Scenes.bids(count), x -> call.on(x, bid));
                }
            }
            Picture.Scene gone = () -> {
                BarnacleExchange x = Scenes.bids(4).make();
                x.cancelBid(2);
                passTides(x, 2);
                x.placeBid(0, 9, 20);
                passTides(x, 1);
                x.addBarnacle(2, 9);
                x.placeOffer(2, 9);
                x.placeBid(1, 9, 3);
                x.undo();
                return x;
            };
            // Bids 1 and 3 are traded, bid 2 is cancelled, bid 0 is expired, and bid 5 is undone.
            is("one of six is open", 1, () -> gone.make().bidCount());
            is("it can be taken", true, () -> call.on(gone.make(), 4) instanceof Integer);
            for (int bid : new int[] {0, 1, 2, 3, 5}) {
                refused("bid " + bid + " that was open", NONE, gone, x -> call.on(x, bid));
            }
        });
    }

    /** The first and the last of the offers are taken; Scenes.offers says what they have. */
    private static void offerId(int promise, Numbered call, Numbered due) {
        shows(promise, OFFER, () -> {
            for (int count : new int[] {1, 2, 16}) {
                for (int offer = 0; offer < count; offer++) {
                    BarnacleExchange x = Scenes.offers(count).make();
                    int id = offer;
                    is("offer " + id + " of " + count, due.on(x, id), () -> call.on(x, id));
                }
            }
        });
    }

    private static void noOffer(int promise, Numbered call) {
        shows(promise, NO_OFFER, () -> {
            for (int count : new int[] {0, 1, 16}) {
                for (int offer : new int[] {-1, count, count + 1, Integer.MIN_VALUE, Integer.MAX_VALUE}) {
                    refused("offer " + offer + " of " + count, NONE, Scenes.offers(count), x -> call.on(x, offer));
                }
            }
            Picture.Scene gone = () -> {
                BarnacleExchange x = Scenes.offers(3).make();
                x.cancelOffer(2);
                x.placeBid(0, 1, 5);
                passTides(x, 2);
                x.placeOffer(0, 50);
                passTides(x, 1);
                x.placeOffer(1, 50);
                x.undo();
                return x;
            };
            // Offer 0 is traded, offer 2 is cancelled, offer 1 is expired, and offer 4 is undone.
            is("one of five is open", 1, () -> gone.make().offerCount());
            is("it can be taken", true, () -> call.on(gone.make(), 3) instanceof Integer);
            for (int offer : new int[] {0, 1, 2, 4}) {
                refused("offer " + offer + " that was open", NONE, gone, x -> call.on(x, offer));
            }
        });
    }

    private static void counts() {
        shows(20, "Returns the number of open bids.", () -> {
            BarnacleExchange x = Scenes.BUSY.make();
            is("one is traded", 3, x::bidCount);
            x.passTide();
            is("another is traded", 2, x::bidCount);
            x.passTide();
            is("one is expired", 1, x::bidCount);
            x.passTide();
            is("all are", 0, x::bidCount);
        });
        shows(20, "Returns the number of bids.", () -> {
            for (int bids = 0; bids <= 10; bids++) {
                is("" + bids, bids, Scenes.bids(bids).make()::bidCount);
            }
            is("after a rejection", 10, after(Scenes.bids(10), x -> x.placeBid(2, 1, 1))::bidCount);
        });
        shows(21, "Returns the number of open offers.", () -> {
            BarnacleExchange x = Scenes.BUSY.make();
            is("one is traded", 2, x::offerCount);
            x.passTide();
            is("another is traded", 1, x::offerCount);
            x.passTide();
            is("all are expired", 0, x::offerCount);
        });
        shows(21, "Returns the number of offers.", () -> {
            for (int offers = 0; offers <= 16; offers++) {
                is("" + offers, offers, Scenes.offers(offers).make()::offerCount);
            }
            is("after a rejection", 16, after(Scenes.offers(16), x -> x.placeOffer(0, 1))::offerCount);
        });
    }

    private static void bidAt() {
        shows(22, "Returns an open bid by its position in the order of bids.", () -> {
            BarnacleExchange x = Scenes.BUSY.make();
            order(x::bidAt, 2, 1, 3);
            x.passTide();
            order(x::bidAt, 1, 3);
            x.passTide();
            order(x::bidAt, 3);
            x.passTide();
            order(x::bidAt);
        });
        positions(22, BarnacleExchange::bidAt, Scenes::bids, 10, true);
        shows(22, "Returns the id of the bid.", () -> {
            BarnacleExchange x = Scenes.bids(10).make();
            for (int bid = 0; bid < 9; bid++) {
                x.cancelBid(bid);
            }
            is("the last of ten", 9, () -> x.bidAt(0));
        });
    }

    private static void offerAt() {
        shows(23, "Returns an open offer by its position in the order of offers.", () -> {
            BarnacleExchange x = Scenes.BUSY.make();
            order(x::offerAt, 1, 2);
            x.passTide();
            order(x::offerAt, 1);
            x.passTide();
            order(x::offerAt);
        });
        positions(23, BarnacleExchange::offerAt, Scenes::offers, 16, false);
        shows(23, "Returns the id of the offer.", () -> {
            BarnacleExchange x = Scenes.offers(16).make();
            for (int offer = 0; offer < 15; offer++) {
                x.cancelOffer(offer);
            }
            is("the last of sixteen", 15, () -> x.offerAt(0));
        });
    }

    /** A scene with some number of orders. */
    private interface Crowd {
        Picture.Scene of(int count);
    }

    private static void positions(int promise, Numbered call, Crowd crowd, int most, boolean isReverse) {
        int[] counts = {0, 1, 2, most};
        shows(promise, POSITION, () -> {
            for (int count : counts) {
                for (int position = 0; position < count; position++) {
                    int at = position;
                    is("position " + at + " of " + count, isReverse ? count - 1 - at : at,
                            () -> call.on(crowd.of(count).make(), at));
                }
            }
        });
        shows(promise, NO_POSITION, () -> {
            for (int count : counts) {
                for (int position : new int[] {-1, count, count + 1, Integer.MIN_VALUE, Integer.MAX_VALUE}) {
                    refused("position " + position + " of " + count, NONE, crowd.of(count),
                            x -> call.on(x, position));
                }
            }
        });
    }

    private static void partsOfBids() {
        shows(24, "Returns the ship of a bid.", () -> {
            is("the first ship", 0, () -> Scenes.BUSY.make().shipOfBid(1));
            is("the second ship", 1, () -> Scenes.BUSY.make().shipOfBid(2));
        });
        bidId(24, BarnacleExchange::shipOfBid, (x, bid) -> bid % 2);
        shows(24, "Returns the index of the ship.", () -> {
            BarnacleExchange x = Scenes.ships(6).make();
            is("the first", 0, () -> x.shipOfBid(0));
            is("the last", 5, () -> x.shipOfBid(5));
        });
        noBid(24, NO_BID, BarnacleExchange::shipOfBid);
        shows(25, "Returns the lowest grade of a bid.", () -> {
            is("of a bid", 1, () -> Scenes.BUSY.make().gradeOfBid(1));
            is("of another", 5, () -> Scenes.BUSY.make().gradeOfBid(2));
        });
        bidId(25, BarnacleExchange::gradeOfBid, (x, bid) -> 1 + bid % 9);
        shows(25, "Returns the grade.", () -> {
            for (int grade = 1; grade <= 9; grade++) {
                BarnacleExchange x = threeShips();
                x.placeBid(0, grade, 50);
                is("" + grade, grade, () -> x.gradeOfBid(0));
            }
        });
        noBid(25, NO_BID, BarnacleExchange::gradeOfBid);
        shows(26, "Returns the price of a bid.", () -> {
            is("of a bid", 20, () -> Scenes.BUSY.make().priceOfBid(1));
            is("of another", 40, () -> Scenes.BUSY.make().priceOfBid(2));
        });
        bidId(26, BarnacleExchange::priceOfBid, (x, bid) -> 5 + bid);
        shows(26, "Returns the price.", () -> {
            for (int price : new int[] {1, 2, 98, 99}) {
                BarnacleExchange x = threeShips();
                x.placeBid(0, 5, price);
                is("" + price, price, () -> x.priceOfBid(0));
            }
        });
        noBid(26, NO_BID, BarnacleExchange::priceOfBid);
        shows(27, "Returns the age of a bid.", () -> {
            is("of a bid", 1, () -> Scenes.BUSY.make().ageOfBid(1));
            is("of a new one", 0, () -> Scenes.BUSY.make().ageOfBid(3));
        });
        bidId(27, BarnacleExchange::ageOfBid, (x, bid) -> 0);
        shows(27, TIDES, () -> {
            BarnacleExchange x = Scenes.bids(0).make();
            passTides(x, 3);
            x.placeBid(0, 9, 1);
            is("none", 0, () -> x.ageOfBid(0));
            passTides(x, 1);
            x.placeBid(0, 9, 1);
            is("one", 1, () -> x.ageOfBid(0));
            passTides(x, 1);
            is("two", 2, () -> x.ageOfBid(0));
            is("one for the later bid", 1, () -> x.ageOfBid(1));
            passTides(x, 1);
            fails("three", NONE, () -> x.ageOfBid(0));
            is("two for the later bid", 2, () -> x.ageOfBid(1));
        });
        noBid(27, NO_BID, BarnacleExchange::ageOfBid);
    }

    private static void partsOfOffers() {
        shows(28, "Returns the barnacle of an offer.", () -> {
            is("of an offer", 1, () -> Scenes.BUSY.make().barnacleOfOffer(1));
            is("of another", 3, () -> Scenes.BUSY.make().barnacleOfOffer(2));
        });
        offerId(28, BarnacleExchange::barnacleOfOffer, (x, offer) -> x.barnacleCount() - 1 - offer);
        shows(28, "Returns the index of the barnacle.", () -> {
            BarnacleExchange x = Scenes.FULL.make();
            is("the first", 0, () -> x.barnacleOfOffer(11));
            is("the last", 15, () -> x.barnacleOfOffer(26));
        });
        noOffer(28, BarnacleExchange::barnacleOfOffer);
        shows(29, "Returns the price of an offer.", () -> {
            is("of an offer", 30, () -> Scenes.BUSY.make().priceOfOffer(1));
            is("of another", 40, () -> Scenes.BUSY.make().priceOfOffer(2));
        });
        offerId(29, BarnacleExchange::priceOfOffer, (x, offer) -> 5 + offer);
        shows(29, "Returns the price.", () -> {
            for (int price : new int[] {1, 2, 98, 99}) {
                BarnacleExchange x = Scenes.barnacles(2).make();
                x.placeOffer(1, price);
                is("" + price, price, () -> x.priceOfOffer(1));
            }
        });
        noOffer(29, BarnacleExchange::priceOfOffer);
        shows(30, "Returns the age of an offer.", () -> {
            is("of an offer", 1, () -> Scenes.BUSY.make().ageOfOffer(1));
            is("of a new one", 0, () -> Scenes.BUSY.make().ageOfOffer(2));
        });
        offerId(30, BarnacleExchange::ageOfOffer, (x, offer) -> 0);
        shows(30, TIDES, () -> {
            BarnacleExchange x = Scenes.barnacles(2).make();
            passTides(x, 3);
            x.placeOffer(0, 9);
            is("none", 0, () -> x.ageOfOffer(1));
            passTides(x, 1);
            x.placeOffer(1, 9);
            is("one", 1, () -> x.ageOfOffer(1));
            passTides(x, 1);
            is("two", 2, () -> x.ageOfOffer(1));
            is("one for the later offer", 1, () -> x.ageOfOffer(2));
            passTides(x, 1);
            fails("three", NONE, () -> x.ageOfOffer(1));
            is("two for the later offer", 2, () -> x.ageOfOffer(2));
        });
        noOffer(30, BarnacleExchange::ageOfOffer);
    }

    private static void matching() {
        shows(31, "Returns the offer that a bid would be traded with if it was the first bid of the auction now, found"
                + " in the order of offers.", () -> firstOfTheAuction(BarnacleExchange::matchFor));
        shows(32, "Returns the same offer in a second way: by looking at all barnacles.",
                () -> firstOfTheAuction(BarnacleExchange::matchByBarnacles));
        matches(31, BarnacleExchange::matchFor);
        matches(32, BarnacleExchange::matchByBarnacles);
    }

    private static void matches(int promise, Numbered match) {
        String noMatch = "Throws `NoSuchElementException` if there is no open bid with this id, or no offer fits it";
        bidId(promise, match, (x, bid) -> 1);
        noBid(promise, noMatch, match);
        shows(promise, noMatch, () -> {
            refused("no offers", NONE, Scenes.ships(2), x -> match.on(x, 0));
            refused("no barnacle of the grade", NONE, Scenes.BUSY, x -> match.on(x, 3));
            refused("no offer so low", NONE, Scenes.BUSY, x -> match.on(x, 1));
            refused("only offers of its ship", NONE, () -> {
                BarnacleExchange x = Scenes.bids(0).make();
                x.placeBid(2, 1, 99);
                return x;
            }, x -> match.on(x, 0));
        });
        shows(promise, "Returns the id of the offer.", () -> {
            BarnacleExchange x = Scenes.offers(16).make();
            x.placeBid(0, 1, 99);
            is("the first", 0, () -> match.on(x, 0));
            for (int offer = 0; offer < 15; offer++) {
                x.cancelOffer(offer);
            }
            is("the last", 15, () -> match.on(x, 0));
        });
    }

    /** All bids want the same offer, though only the first of them will get it. */
    private static void firstOfTheAuction(Numbered match) {
        BarnacleExchange x = threeShips();
        x.addBarnacle(0, 5);
        x.addBarnacle(1, 5);
        x.placeOffer(0, 10);
        x.placeOffer(1, 11);
        x.placeBid(2, 1, 30);
        x.placeBid(1, 1, 20);
        x.placeBid(0, 1, 10);
        x.placeBid(0, 1, 11);
        is("the first bid", 0, () -> match.on(x, 0));
        is("the second bid", 0, () -> match.on(x, 1));
        fails("a bid that finds none", NONE, () -> match.on(x, 2));
        is("the last bid", 1, () -> match.on(x, 3));
        is("the bid of ship 0 too", 2, x::passTide);
        is("the first bid got it", 2, () -> x.shipOf(0));
        BarnacleExchange y = samePrices();
        for (int offer : new int[] {1, 2, 0, 3}) {
            is("of the same price, offer " + offer, offer, () -> match.on(y, 0));
            y.cancelOffer(offer);
        }
    }

    private static void spread() {
        shows(33, "Returns the price of the first bid in the order of bids minus the price of the first offer in the"
                + " order of offers.", () -> {
            is("the first ones", 10, Scenes.BUSY.make()::spread);
            is("of ten bids", 14 - 5, Scenes.bids(10).make()::spread);
        });
        shows(33, "Returns the difference, which can be negative.", () -> {
            is("0", 0, () -> spreadOf(50, 50));
            is("-1", -1, () -> spreadOf(50, 51));
            is("1", 1, () -> spreadOf(51, 50));
            is("the least", -98, () -> spreadOf(1, 99));
            is("the greatest", 98, () -> spreadOf(99, 1));
        });
        shows(33, "Throws `NoSuchElementException` if there are no open bids, or no open offers", () -> {
            refused("neither", NONE, Scenes.EMPTY, BarnacleExchange::spread);
            refused("no bids", NONE, Scenes.offers(16), BarnacleExchange::spread);
            refused("no offers", NONE, Scenes.ships(6), BarnacleExchange::spread);
            refused("both expired", NONE, () -> {
                BarnacleExchange x = Scenes.BUSY.make();
                passTides(x, 3);
                return x;
            }, BarnacleExchange::spread);
        });
    }

    private static int spreadOf(int bid, int offer) {
        BarnacleExchange x = threeShips();
        x.addBarnacle(0, 5);
        x.placeBid(0, 1, bid);
        x.placeOffer(0, offer);
        return x.spread();
    }
}
