/** The sentences on totals and orders: promises 43 to 52. */
final class EdgesOfTotals extends Edges {
    private EdgesOfTotals() {
    }

    static void show() {
        trades();
        expiredCount();
        coins();
        shipByWealth();
        meanPrice();
        offeredShare();
        isConsistent();
    }

    /** One trade at a fee and a price, of ship 0 as the seller and ship 1 as the buyer, with 99 coins each at first. */
    private static BarnacleExchange trade(int fee, int price) {
        BarnacleExchange x = new BarnacleExchange();
        x.addShip(99, 5);
        x.addShip(99, 5);
        x.addBarnacle(0, 5);
        x.setFee(fee);
        x.placeOffer(0, price);
        x.placeBid(1, 1, price);
        x.passTide();
        return x;
    }

    private static void trades() {
        shows(43, "Returns the number of trades so far.", () -> {
            for (int trades = 0; trades <= 12; trades++) {
                is("" + trades, trades, Scenes.trades(trades).make()::tradeCount);
            }
            is("an undone one does not count", 11, undone(Scenes.trades(12))::tradeCount);
        });
        shows(43, "Returns the number of trades.", () -> {
            is("none without ships", 0, new BarnacleExchange()::tradeCount);
            is("several in one tide", 2, after(Scenes.bids(10), BarnacleExchange::passTide)::tradeCount);
            is("asking does not count", 0, after(Scenes.bids(10), BarnacleExchange::wouldTrade)::tradeCount);
        });
        shows(44, "Returns the sum of the prices of all trades so far.", () -> {
            int sum = 0;
            for (int trades = 0; trades <= 12; trades++) {
                is(trades + " trades", sum, Scenes.trades(trades).make()::turnover);
                sum += 5 + trades;
            }
            is("an undone one does not count", sum - 5 - 12 - 5 - 11, undone(Scenes.trades(12))::turnover);
        });
        shows(44, "Returns the sum.", () -> {
            is("none without ships", 0, new BarnacleExchange()::turnover);
            is("the fee is part of the price", 9, trade(9, 9)::turnover);
            is("the greatest price", 99, trade(0, 99)::turnover);
        });
        shows(45, "Returns the coins of the exchange, which come from fees.", () -> {
            for (int trades = 0; trades <= 12; trades++) {
                is(trades + " fees of 1", trades, Scenes.trades(trades).make()::exchangeCoins);
            }
            is("an undone one does not count", 11, undone(Scenes.trades(12))::exchangeCoins);
        });
        shows(45, "Returns the coins.", () -> {
            is("none without ships", 0, new BarnacleExchange()::exchangeCoins);
            is("no fee", 0, trade(0, 99)::exchangeCoins);
            is("the greatest fee", 9, trade(9, 99)::exchangeCoins);
            is("a fee that is greater than the price", 8, trade(9, 8)::exchangeCoins);
        });
    }

    private static BarnacleExchange undone(Picture.Scene scene) {
        return after(scene, BarnacleExchange::undo);
    }

    private static void expiredCount() {
        shows(46, "Returns the number of bids and offers that have expired so far.", () -> {
            BarnacleExchange x = Scenes.ships(6).make();
            for (int barnacle = 0; barnacle < 6; barnacle++) {
                x.placeOffer(barnacle, 99);
            }
            x.cancelBid(0);
            x.cancelOffer(1);
            x.passTide();
            x.passTide();
            is("at age 2", 0, x::expiredCount);
            x.placeBid(0, 9, 1);
            x.placeOffer(1, 99);
            x.passTide();
            is("five bids and five offers, the cancelled ones not", 10, x::expiredCount);
            x.passTide();
            is("no further ones yet", 10, x::expiredCount);
            x.passTide();
            is("a bid and an offer more", 12, x::expiredCount);
            x.undo();
            is("undone", 10, x::expiredCount);
        });
        shows(46, "Returns the number of orders.", () -> {
            is("none without ships", 0, after(Scenes.EMPTY, BarnacleExchange::passTide)::expiredCount);
            is("traded ones do not count", 0, Scenes.trades(12).make()::expiredCount);
            is("ten bids", 10 - 2, after(Scenes.bids(10), x -> x.passTide() + x.passTide() + x.passTide())
                    ::expiredCount);
            is("sixteen offers", 16, after(Scenes.offers(16), x -> x.passTide() + x.passTide() + x.passTide())
                    ::expiredCount);
        });
    }

    private static void coins() {
        shows(47, "Returns the coins of all ships and of the exchange.", () -> {
            int sum = 0;
            for (int ships = 0; ships <= 6; ships++) {
                is(ships + " ships", sum, Scenes.ships(ships).make()::allCoins);
                sum += 10 + ships;
            }
            is("the exchange has some of them", 5 * 99, Scenes.trades(12).make()::allCoins);
        });
        shows(47, "Returns the sum.", () -> {
            is("reserved ones included", 10 + 11, Scenes.ships(2).make()::allCoins);
            is("of a ship without coins", 0, after(Scenes.EMPTY, x -> x.addShip(0, 1))::allCoins);
            is("its parts", 198, () -> {
                BarnacleExchange x = trade(9, 5);
                return x.coinsOf(0) + x.coinsOf(1) + x.exchangeCoins();
            });
        });
        shows(48, "Returns all coins that ships had when they were added or that they were given so far.", () -> {
            BarnacleExchange x = new BarnacleExchange();
            x.addShip(99, 1);
            is("a ship", 99, x::allCoinsGiven);
            x.addShip(0, 1);
            is("a ship without coins", 99, x::allCoinsGiven);
            x.giveCoins(1, 1);
            is("a gift", 100, x::allCoinsGiven);
            x.giveCoins(0, 99);
            is("another gift", 199, x::allCoinsGiven);
            fails("a wrong gift", ILLEGAL, () -> x.giveCoins(0, 100));
            fails("a wrong ship", ILLEGAL, () -> x.addShip(9, 6));
            is("wrong ones do not count", 199, x::allCoinsGiven);
            is("trades do not count", 5 * 99, Scenes.trades(12).make()::allCoinsGiven);
            is("nor does a seventh ship", 75, after(Scenes.ships(6), y -> y.addShip(9, 1))::allCoinsGiven);
        });
        shows(48, "It is always the same as allCoins.", () -> {
            Picture.Scene[] scenes = {Scenes.EMPTY, Scenes.BUSY, Scenes.FULL, Scenes.trades(12), Scenes.bids(10)};
            for (Picture.Scene scene : scenes) {
                BarnacleExchange x = scene.make();
                is("at first", x.allCoins(), x::allCoinsGiven);
                x.setFee(9);
                x.passTide();
                is("after a tide", x.allCoins(), x::allCoinsGiven);
                x.undo();
                is("after undo", x.allCoins(), x::allCoinsGiven);
                Check.answerOf(x::restoreSnapshot);
                is("after the snapshot", x.allCoins(), x::allCoinsGiven);
            }
        });
        shows(48, "Returns the sum.", () -> {
            is("none without ships", 0, new BarnacleExchange()::allCoinsGiven);
            is("an undone gift does not count", 21, () -> {
                BarnacleExchange x = Scenes.ships(2).make();
                x.giveCoins(0, 5);
                x.undo();
                return x.allCoinsGiven();
            });
        });
    }

    private static void shipByWealth() {
        shows(49, "Returns a ship in the order of wealth, the wealthiest first.", () -> {
            BarnacleExchange x = new BarnacleExchange();
            int[] coins = {5, 99, 0, 50, 6, 98};
            for (int amount : coins) {
                x.addShip(amount, 1);
            }
            wealth(x, 1, 5, 3, 4, 0, 2);
            x.giveCoins(2, 99);
            x.giveCoins(2, 1);
            wealth(x, 2, 1, 5, 3, 4, 0);
        });
        shows(49, "The wealth of a ship is its coins plus the sum of the grades of its barnacles.", () -> {
            BarnacleExchange x = new BarnacleExchange();
            x.addShip(20, 5);
            x.addShip(10, 5);
            x.addShip(15, 5);
            x.addBarnacle(1, 9);
            wealth(x, 0, 1, 2);
            x.addBarnacle(1, 2);
            wealth(x, 1, 0, 2);
            x.placeOffer(0, 9);
            wealth(x, 1, 0, 2);
            x.placeBid(2, 1, 15);
            // A price of 12 and a fee of 1: 20, 10 + 11 + 2 and 3 + 9.
            x.passTide();
            wealth(x, 1, 0, 2);
            x.giveCoins(2, 12);
            wealth(x, 2, 1, 0);
            x.giveCoins(0, 99);
            wealth(x, 0, 2, 1);
        });
        shows(49, "Of ships with the same wealth, the one with the greater load comes first, then the one with the lower"
                + " index.", () -> {
            BarnacleExchange x = new BarnacleExchange();
            int[] coins = {9, 8, 7, 7, 9, 0};
            for (int amount : coins) {
                x.addShip(amount, 5);
            }
            x.addBarnacle(1, 1);
            x.addBarnacle(2, 1);
            x.addBarnacle(2, 1);
            x.addBarnacle(3, 2);
            x.addBarnacle(5, 9);
            // All have a wealth of 9; the loads are 0, 1, 2, 1, 0 and 1.
            x.placeBid(0, 1, 9);
            wealth(x, 2, 1, 3, 5, 0, 4);
        });
        shows(49, "`position`: the position, from 0", () -> {
            is("the only one", 0, () -> Scenes.ships(1).make().shipByWealth(0));
            is("the first of six", 5, () -> Scenes.ships(6).make().shipByWealth(0));
            is("the last of six", 0, () -> Scenes.ships(6).make().shipByWealth(5));
        });
        shows(49, "Returns the index of the ship.", () -> {
            for (int position = 0; position < 4; position++) {
                int at = position;
                is("of four equal ones", at, () -> Scenes.barnacles(0).make().shipByWealth(at));
            }
        });
        shows(49, "Throws `NoSuchElementException` if there is no such position", () -> {
            for (int ships = 0; ships <= 6; ships++) {
                for (int position : new int[] {-1, ships, ships + 1, Integer.MIN_VALUE, Integer.MAX_VALUE}) {
                    refused("position " + position + " of " + ships, NONE, Scenes.ships(ships),
                            x -> x.shipByWealth(position));
                }
            }
        });
    }

    private static void wealth(BarnacleExchange x, int... due) {
        for (int position = 0; position < due.length; position++) {
            int at = position;
            is("position " + at, due[at], () -> x.shipByWealth(at));
        }
    }

    private static void meanPrice() {
        shows(50, "Returns the mean price of all trades so far: the turnover divided by the number of trades, both"
                + " converted to double.", () -> {
            double sum = 5.0;
            for (int trades = 1; trades <= 12; trades++) {
                is(trades + " trades", sum / trades, Scenes.trades(trades).make()::meanPrice);
                sum += 5.0 + trades;
            }
        });
        shows(50, "Returns the mean price.", () -> {
            is("a half", 5.5, Scenes.trades(2).make()::meanPrice);
            is("the least", 1.0, trade(1, 1)::meanPrice);
            is("the greatest", 99.0, trade(1, 99)::meanPrice);
            is("not a float", 43.0 / 3.0, () -> {
                BarnacleExchange x = Scenes.trades(2).make();
                x.placeOffer(2, 32);
                x.placeBid(3, 3, 32);
                x.passTide();
                return x.meanPrice();
            });
        });
        shows(50, "Throws `ArithmeticException` if there were no trades", () -> {
            refused("no ships", NO_NUMBER, Scenes.EMPTY, BarnacleExchange::meanPrice);
            refused("bids and offers", NO_NUMBER, Scenes.bids(10), BarnacleExchange::meanPrice);
            refused("an undone trade", NO_NUMBER, () -> undone(Scenes.trades(1)), BarnacleExchange::meanPrice);
        });
    }

    private static void offeredShare() {
        shows(51, "Returns the share of offered barnacles among all barnacles, both numbers converted to float.", () -> {
            for (int barnacles = 1; barnacles <= 16; barnacles++) {
                float offered = (barnacles + 1) / 2;
                is("of " + barnacles, offered / barnacles, Scenes.barnacles(barnacles).make()::offeredShare);
            }
        });
        shows(51, "Returns the share.", () -> {
            is("none", 0.0f, Scenes.ships(6).make()::offeredShare);
            is("all", 1.0f, Scenes.offers(16).make()::offeredShare);
            is("one of 16", 0.0625f, () -> {
                BarnacleExchange x = Scenes.offers(16).make();
                for (int offer = 0; offer < 15; offer++) {
                    x.cancelOffer(offer);
                }
                return x.offeredShare();
            });
            is("bids do not count", 1.0f, Scenes.bids(10).make()::offeredShare);
        });
        shows(51, "Throws `ArithmeticException` if there are no barnacles", () -> {
            refused("no ships", NO_NUMBER, Scenes.EMPTY, BarnacleExchange::offeredShare);
            refused("no barnacles", NO_NUMBER, Scenes.barnacles(0), BarnacleExchange::offeredShare);
            refused("an undone barnacle", NO_NUMBER, () -> after(Scenes.barnacles(0), x -> {
                x.addBarnacle(0, 1);
                return x.undo();
            }), BarnacleExchange::offeredShare);
        });
    }

    private static void isConsistent() {
        shows(52, "Checks the data: both ways to find an offer agree for all open bids, both sums of all coins are equal,"
                + " no ship has fewer coins than are reserved, and no ship has more barnacles and open bids together"
                + " than its capacity.", () -> {
            is("no ships", true, new BarnacleExchange()::isConsistent);
            is("all coins are reserved, and all places", true, () -> {
                BarnacleExchange x = new BarnacleExchange();
                x.addShip(2, 3);
                x.addBarnacle(0, 1);
                x.placeBid(0, 1, 1);
                x.placeBid(0, 1, 1);
                return x.isConsistent();
            });
            is("all is full", true, Scenes.FULL.make()::isConsistent);
            is("offers of the same price and grade", true, () -> {
                BarnacleExchange x = Scenes.barnacles(0).make();
                for (int barnacle = 0; barnacle < 4; barnacle++) {
                    x.addBarnacle(barnacle, 5);
                }
                for (int barnacle = 3; barnacle >= 0; barnacle--) {
                    x.placeOffer(barnacle, 20);
                }
                x.placeBid(3, 5, 20);
                x.placeBid(0, 5, 20);
                return x.isConsistent();
            });
        });
        shows(52, "Returns whether all this is true.", () -> {
            Picture.Scene[] scenes = {Scenes.BUSY, Scenes.FULL, Scenes.trades(12), Scenes.bids(10), Scenes.offers(16)};
            for (Picture.Scene scene : scenes) {
                BarnacleExchange x = scene.make();
                is("at first", true, x::isConsistent);
                for (int tide = 1; tide <= 3; tide++) {
                    x.passTide();
                    is("after tide " + tide, true, x::isConsistent);
                }
                x.undo();
                is("after undo", true, x::isConsistent);
            }
        });
    }
}
