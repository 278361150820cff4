/** The sentences on tides: those of the terms, and promises 34 to 42. */
final class EdgesOfTides extends Edges {
    private static final String RECENCY = "`recency`: 0 for the latest trade, 1 for the one before, and so on";
    private static final String NO_TRADE =
            "Throws `NoSuchElementException` if there is no such trade among the latest 10";

    private EdgesOfTides() {
    }

    static void show() {
        auction();
        payment();
        fees();
        ages();
        passTide();
        wouldTrade();
        setFee();
        tideCount();
        trades();
    }

    /** Ships 0 to 3 with 99 coins and 5 places; ship 0 has barnacles 0 to 2 of the grades 5, 5 and 6. */
    private static BarnacleExchange fourShips() {
        BarnacleExchange x = new BarnacleExchange();
        for (int ship = 0; ship < 4; ship++) {
            x.addShip(99, 5);
        }
        x.addBarnacle(0, 5);
        x.addBarnacle(0, 5);
        x.addBarnacle(0, 6);
        return x;
    }

    private static void auction() {
        shows(0, "When a tide passes, an auction is held first: the bids that are open are taken one after the other in"
                + " the order of bids.", () -> {
            BarnacleExchange x = fourShips();
            x.placeBid(1, 1, 10);
            x.placeBid(2, 1, 12);
            x.placeBid(3, 1, 12);
            x.placeOffer(0, 10);
            is("one offer for three bids", 1, x::passTide);
            is("the higher price, and of two the lower id", 2, () -> x.shipOf(0));
            x.placeOffer(1, 10);
            is("one for the rest", 1, x::passTide);
            is("the higher price", 3, () -> x.shipOf(1));
            x.placeOffer(2, 10);
            is("the last one in its third tide, ahead of its expiry", 1, x::passTide);
            is("it has the barnacle", 1, () -> x.shipOf(2));
            is("it did not expire", 0, x::expiredCount);
            BarnacleExchange y = fourShips();
            y.placeBid(1, 1, 50);
            y.placeBid(2, 1, 50);
            y.placeOffer(0, 50);
            is("one trade", 1, y::passTide);
            y.cancelBid(1);
            y.placeOffer(1, 50);
            is("a bid that is traded and one that is cancelled are not taken", 0, y::passTide);
            BarnacleExchange full = Scenes.bids(10).make();
            full.cancelOffer(0);
            full.cancelOffer(1);
            full.placeOffer(0, 99);
            is("none of ten bids finds an offer", 0, full::passTide);
            full.passTide();
            full.passTide();
            full.placeOffer(1, 5);
            is("bids that are expired are not taken", 0, full::passTide);
        });
        shows(0, "If an offer that is still open fits the bid, both are traded.", () -> {
            BarnacleExchange x = fourShips();
            x.placeOffer(0, 10);
            x.placeOffer(1, 11);
            x.placeBid(1, 1, 11);
            x.placeBid(2, 1, 11);
            x.placeBid(3, 1, 11);
            x.placeBid(3, 6, 30);
            is("two offers for four bids", 2, x::passTide);
            is("the first offer is for the first bid it fits", 1, () -> x.shipOf(0));
            is("the second offer is for the next bid", 2, () -> x.shipOf(1));
            fails("the bid is closed", NONE, () -> x.priceOfBid(0));
            fails("the offer is closed", NONE, () -> x.priceOfOffer(1));
            is("a bid without an offer is open", 1, () -> x.ageOfBid(2));
            is("so is a bid that no offer fits", 1, () -> x.ageOfBid(3));
            is("no offers", 0, x::offerCount);
            is("nothing to trade", 0, x::passTide);
        });
        shows(0, "The barnacle moves to the buyer.", () -> {
            BarnacleExchange x = fourShips();
            x.placeOffer(2, 1);
            x.placeBid(3, 6, 1);
            x.passTide();
            is("its ship", 3, () -> x.shipOf(2));
            is("it is there", 2, () -> x.barnacleAt(3, 0));
            is("load of the buyer", 1, () -> x.loadOf(3));
            is("load of the seller", 2, () -> x.loadOf(0));
            is("its grade", 6, () -> x.gradeOf(2));
            BarnacleExchange y = new BarnacleExchange();
            y.addShip(9, 1);
            y.addShip(9, 1);
            y.addBarnacle(0, 1);
            y.placeOffer(0, 9);
            y.placeBid(1, 1, 9);
            is("a full ship to one without a further place", 1, y::passTide);
            is("no free place", 0, () -> y.freePlaces(1));
            is("a free place", 1, () -> y.freePlaces(0));
        });
    }

    private static void payment() {
        shows(0, "The buyer, which is the ship of the bid, pays the price of the trade to the seller, which is the ship"
                + " of the barnacle; the price of the trade is the sum of both prices, divided by 2 and rounded down.",
                () -> {
            int[][] prices = {{1, 1, 1}, {2, 1, 1}, {3, 1, 2}, {4, 1, 2}, {7, 4, 5}, {20, 10, 15}, {98, 97, 97},
                {99, 98, 98}, {99, 99, 99}, {99, 1, 50}, {98, 1, 49}};
            for (int[] row : prices) {
                BarnacleExchange x = trade(0, row[0], row[1]);
                String what = "a bid of " + row[0] + " and an offer of " + row[1];
                is(what + ", the price", row[2], () -> x.priceOf(0));
                is(what + ", the buyer", 99 - row[2], () -> x.coinsOf(1));
                is(what + ", the seller", 99 + row[2], () -> x.coinsOf(0));
                is(what + ", who is the buyer", 1, () -> x.buyerOf(0));
                is(what + ", who is the seller", 0, () -> x.sellerOf(0));
                is(what + ", another", 99, () -> x.coinsOf(2));
            }
        });
    }

    /** Ship 1 bids and ship 0 offers, at a fee. */
    private static BarnacleExchange trade(int fee, int bid, int offer) {
        BarnacleExchange x = fourShips();
        x.setFee(fee);
        x.placeOffer(0, offer);
        x.placeBid(1, 1, bid);
        x.passTide();
        return x;
    }

    private static void fees() {
        shows(0, "The seller pays the fee, but at most the price of the trade, to the exchange.", () -> {
            int[][] rows = {{0, 5, 0}, {1, 1, 1}, {1, 5, 1}, {4, 5, 4}, {5, 5, 5}, {6, 5, 5}, {9, 5, 5}, {9, 1, 1},
                {2, 1, 1}, {9, 8, 8}, {9, 9, 9}, {9, 10, 9}, {9, 99, 9}};
            for (int[] row : rows) {
                BarnacleExchange x = trade(row[0], row[1], row[1]);
                String what = "a fee of " + row[0] + " and a price of " + row[1];
                is(what + ", the exchange", row[2], x::exchangeCoins);
                is(what + ", the seller", 99 + row[1] - row[2], () -> x.coinsOf(0));
                is(what + ", the buyer", 99 - row[1], () -> x.coinsOf(1));
                is(what + ", all", 396, x::allCoins);
            }
            is("of an odd sum, the price is rounded first", 5, trade(9, 6, 5)::exchangeCoins);
        });
        shows(0, "The fee is 1 at first.", () -> {
            is("the fee", 1, new BarnacleExchange()::fee);
            BarnacleExchange x = fourShips();
            x.placeOffer(0, 9);
            x.placeBid(1, 1, 9);
            x.passTide();
            is("it is paid", 1, x::exchangeCoins);
        });
    }

    private static void ages() {
        shows(0, "After the auction, the age of every bid and offer that is still open increases by 1; if it is 3 then,"
                + " the bid or offer expires.", () -> {
            BarnacleExchange x = fourShips();
            x.placeBid(1, 9, 5);
            x.placeBid(2, 9, 50);
            x.placeOffer(0, 90);
            x.placeOffer(1, 99);
            for (int tides = 1; tides <= 2; tides++) {
                int age = tides;
                x.passTide();
                is("bid 0 after " + age, age, () -> x.ageOfBid(0));
                is("bid 1 after " + age, age, () -> x.ageOfBid(1));
                is("offer 0 after " + age, age, () -> x.ageOfOffer(0));
                is("offer 1 after " + age, age, () -> x.ageOfOffer(1));
                is("none is expired after " + age, 0, x::expiredCount);
            }
            x.placeBid(3, 1, 99);
            x.placeBid(1, 9, 6);
            x.placeOffer(2, 99);
            is("a trade in the third tide", 1, x::passTide);
            is("the rest of the first ones is expired", 3, x::expiredCount);
            is("the later bid is left", 3, () -> x.bidAt(0));
            is("one bid", 1, x::bidCount);
            is("its age", 1, () -> x.ageOfBid(3));
            is("the later offer is left", 2, () -> x.offerAt(0));
            is("one offer", 1, x::offerCount);
            is("its age too", 1, () -> x.ageOfOffer(2));
            fails("age 3 of a bid", NONE, () -> x.ageOfBid(1));
            fails("age 3 of an offer", NONE, () -> x.ageOfOffer(1));
            is("coins are free", 6, () -> x.reservedCoins(1));
            is("a place is free", 4, () -> x.freePlaces(1));
            BarnacleExchange y = Scenes.offers(16).make();
            y.placeBid(0, 9, 1);
            y.placeBid(0, 9, 1);
            y.passTide();
            y.passTide();
            is("all are of age 2", 16, y::offerCount);
            y.passTide();
            is("all are expired", 18, y::expiredCount);
        });
    }

    private static void passTide() {
        shows(34, "Lets a tide pass.", () -> {
            changes("with a trade", Scenes.BUSY, BarnacleExchange::passTide, "data", "changes");
            changes("with nothing", Scenes.EMPTY, BarnacleExchange::passTide, "data", "changes");
            BarnacleExchange x = Scenes.BUSY.make();
            x.passTide();
            is("the tide counts", 3, x::tideCount);
            is("the trade counts", 2, x::tradeCount);
            is("the bids are older", 2, () -> x.ageOfBid(1));
        });
        shows(34, "Returns the number of trades.", () -> {
            is("none without ships", 0, Scenes.EMPTY.make()::passTide);
            is("none without offers", 0, Scenes.ships(6).make()::passTide);
            is("none without bids", 0, Scenes.offers(16).make()::passTide);
            is("one, after an earlier one", 1, Scenes.BUSY.make()::passTide);
            is("two of ten bids", 2, Scenes.bids(10).make()::passTide);
            is("ten", 10, tenTrades()::passTide);
        });
    }

    /** 10 bids, each of which finds an offer. */
    private static BarnacleExchange tenTrades() {
        BarnacleExchange x = Scenes.offers(10).make();
        x.addShip(99, 5);
        for (int bid = 0; bid < 10; bid++) {
            x.placeBid(bid < 5 ? 0 : 5, 1, 19);
        }
        return x;
    }

    private static void wouldTrade() {
        shows(35, "Returns how many trades would be made if a tide passed now.", () -> {
            for (Picture.Scene scene : new Picture.Scene[] {Scenes.EMPTY, Scenes.BUSY, Scenes.FULL, Scenes.bids(10)}) {
                BarnacleExchange x = scene.make();
                int due = scene.make().passTide();
                is("as many", due, x::wouldTrade);
                is("as many again", due, x::wouldTrade);
                is("as many as with passTide", due, x::passTide);
                changes("asking", scene, BarnacleExchange::wouldTrade);
            }
        });
        shows(35, "Returns the number of trades.", () -> {
            is("none", 0, Scenes.ships(6).make()::wouldTrade);
            is("ten", 10, tenTrades()::wouldTrade);
        });
    }

    private static void setFee() {
        shows(36, "Sets the fee.", () -> {
            changes("another fee", Scenes.BUSY, x -> x.setFee(0), "data", "changes");
            BarnacleExchange x = Scenes.BUSY.make();
            x.setFee(9);
            is("the fee", 9, x::fee);
            x.passTide();
            is("it is paid from now on", 2 + 9, x::exchangeCoins);
        });
        range(36, "`fee`: the new fee, 0 to 9", 0, 9, Scenes.BUSY, (x, fee) -> {
            x.setFee(fee);
            return x.fee();
        });
        shows(36, "Returns the previous fee.", () -> {
            BarnacleExchange x = new BarnacleExchange();
            is("the first", 1, () -> x.setFee(9));
            is("the greatest", 9, () -> x.setFee(0));
            is("the least", 0, () -> x.setFee(0));
            is("the same", 0, () -> x.setFee(5));
            fails("a wrong one", ILLEGAL, () -> x.setFee(10));
            is("not the wrong one", 5, () -> x.setFee(5));
        });
        shows(36, "Throws `IllegalArgumentException` if fee is out of range", () -> {
            refused("fee -1", ILLEGAL, Scenes.BUSY, x -> x.setFee(-1));
            refused("fee 10", ILLEGAL, Scenes.BUSY, x -> x.setFee(10));
        });
        shows(37, "Returns the fee.", () -> {
            is("at first", 1, new BarnacleExchange()::fee);
            for (int fee = 0; fee <= 9; fee++) {
                int set = fee;
                is("" + fee, fee, after(Scenes.EMPTY, x -> x.setFee(set))::fee);
            }
            is("after a wrong one", 3, after(Scenes.BUSY, x -> x.setFee(10))::fee);
        });
    }

    private static void tideCount() {
        shows(38, "Returns the number of tides that have passed so far.", () -> {
            BarnacleExchange x = new BarnacleExchange();
            for (int tides = 0; tides < 50; tides++) {
                is("" + tides, tides, x::tideCount);
                x.passTide();
            }
        });
        shows(38, "Returns the number of tides.", () -> {
            BarnacleExchange x = Scenes.BUSY.make();
            x.wouldTrade();
            is("asking does not count", 2, x::tideCount);
            x.execute();
            is("a command counts", 3, x::tideCount);
            x.undo();
            is("an undone one does not", 2, x::tideCount);
        });
    }

    private static void trades() {
        shows(39, "Returns the buyer of a trade.", () -> is("of one", 0, () -> Scenes.BUSY.make().buyerOf(0)));
        recencies(39, BarnacleExchange::buyerOf, (x, trade) -> 3 - trade / 3);
        shows(39, "Returns the index of the ship.", () -> {
            is("the first ship", 0, () -> Scenes.trades(12).make().buyerOf(0));
            is("the last ship", 5, () -> lastShips().buyerOf(0));
        });
        shows(40, "Returns the seller of a trade.", () -> is("of one", 1, () -> Scenes.BUSY.make().sellerOf(0)));
        recencies(40, BarnacleExchange::sellerOf, (x, trade) -> 4 - trade / 3);
        shows(40, "Returns the index of the ship.", () -> {
            is("the first ship", 0, () -> trade(1, 9, 9).sellerOf(0));
            is("the last but one", 4, () -> lastShips().sellerOf(0));
        });
        shows(41, "Returns the barnacle of a trade.", () -> is("of one", 0, () -> Scenes.BUSY.make().barnacleOf(0)));
        recencies(41, BarnacleExchange::barnacleOf, (x, trade) -> trade % 3);
        shows(41, "Returns the index of the barnacle.", () -> {
            is("the first barnacle", 0, () -> trade(1, 9, 9).barnacleOf(0));
            is("the last barnacle", 15, () -> lastShips().barnacleOf(0));
        });
        shows(42, "Returns the price of a trade.", () -> is("of one", 12, () -> Scenes.BUSY.make().priceOf(0)));
        recencies(42, BarnacleExchange::priceOf, (x, trade) -> 5 + trade);
        shows(42, "Returns the price that the buyer paid.", () -> {
            is("not what the seller got", 9, () -> trade(9, 9, 9).priceOf(0));
            is("the least", 1, () -> trade(1, 1, 1).priceOf(0));
            is("the greatest", 99, () -> trade(1, 99, 99).priceOf(0));
        });
    }

    /** Ship 5 has bought barnacle 15 from ship 4. */
    private static BarnacleExchange lastShips() {
        BarnacleExchange x = new BarnacleExchange();
        for (int ship = 0; ship < 6; ship++) {
            x.addShip(9, 5);
        }
        for (int barnacle = 0; barnacle < 16; barnacle++) {
            x.addBarnacle(barnacle < 15 ? barnacle / 5 : 4, 1);
        }
        x.placeOffer(15, 1);
        x.placeBid(5, 1, 1);
        x.passTide();
        return x;
    }

    /** Scenes.trades says what trade i is. */
    private static void recencies(int promise, Numbered call, Numbered due) {
        shows(promise, RECENCY, () -> {
            for (int count = 1; count <= 12; count++) {
                int latest = count - 1;
                BarnacleExchange x = Scenes.trades(count).make();
                for (int recency = 0; recency < Math.min(count, 10); recency++) {
                    int back = recency;
                    is(back + " of " + count, due.on(x, latest - back), () -> call.on(x, back));
                }
            }
        });
        shows(promise, NO_TRADE, () -> {
            for (int count : new int[] {0, 1, 9, 10, 11, 12}) {
                int kept = Math.min(count, 10);
                for (int recency : new int[] {-1, kept, kept + 1, 10, Integer.MIN_VALUE, Integer.MAX_VALUE}) {
                    refused(recency + " of " + count, NONE, Scenes.trades(count), x -> call.on(x, recency));
                }
            }
            refused("a trade that is undone", NONE, undone(Scenes.trades(1)), x -> call.on(x, 0));
        });
    }

    private static Picture.Scene undone(Picture.Scene scene) {
        return () -> {
            BarnacleExchange x = scene.make();
            x.undo();
            return x;
        };
    }
}
