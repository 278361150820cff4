/** The sentences on rejections and exceptions: those of the terms, the constants, and promises 58 to 60. */
final class EdgesOfRejections extends Edges {
    private EdgesOfRejections() {
    }

    static void show() {
        firstReason();
        reasons();
        rejectedCalls();
        shipAndBarnacleLimits();
        noPlace();
        bidLimit();
        tooPoor();
        offered();
        commandRejected();
        exceptions();
        severalExceptions();
        furtherRules();
        rejectionReason();
        rejectionDetail();
        causeReason();
    }

    /** One ship with these coins and places, and as many barnacles and bids of one coin. */
    private static Picture.Scene ship(int coins, int capacity, int barnacles, int bids) {
        return () -> {
            BarnacleExchange x = new BarnacleExchange();
            x.addShip(coins, capacity);
            for (int i = 0; i < barnacles; i++) {
                x.addBarnacle(0, 1);
            }
            for (int i = 0; i < bids; i++) {
                x.placeBid(0, 9, 1);
            }
            return x;
        };
    }

    /** 16 barnacles on ships 0 to 3, of which ship 3 has one free place and ship 4 has 5. */
    private static BarnacleExchange sixteen() {
        BarnacleExchange x = Scenes.barnacles(16).make();
        x.addShip(9, 5);
        x.placeBid(3, 9, 1);
        x.placeBid(3, 9, 1);
        x.placeBid(3, 9, 1);
        return x;
    }

    /** 10 bids of ships 0 and 1, which have no free place; ship 0 has 50 coins that are not reserved, ship 1 has none. */
    private static BarnacleExchange tenBids() {
        BarnacleExchange x = new BarnacleExchange();
        x.addShip(70, 5);
        x.addShip(20, 5);
        x.addShip(0, 5);
        for (int bid = 0; bid < 10; bid++) {
            x.placeBid(bid % 2, 1, 4);
        }
        return x;
    }

    private static void firstReason() {
        shows(0, "A call is rejected for the first reason that applies, in the order in which its method names them.",
                () -> {
            rejects("16 barnacles", EdgesOfRejections::sixteen, BarnacleExchange.BARNACLE_LIMIT, 16,
                    x -> x.addBarnacle(4, 1));
            rejects("16 barnacles and no place", EdgesOfRejections::sixteen, BarnacleExchange.BARNACLE_LIMIT, 16,
                    x -> x.addBarnacle(0, 1));
            rejects("10 bids", EdgesOfRejections::tenBids, BarnacleExchange.BID_LIMIT, 9, x -> {
                x.giveCoins(2, 1);
                return x.placeBid(2, 1, 1);
            });
            rejects("10 bids and no place", EdgesOfRejections::tenBids, BarnacleExchange.BID_LIMIT, 9,
                    x -> x.placeBid(0, 1, 1));
            rejects("10 bids and too poor", EdgesOfRejections::tenBids, BarnacleExchange.BID_LIMIT, 9,
                    x -> x.placeBid(2, 1, 1));
            rejects("10 bids, no place and too poor", EdgesOfRejections::tenBids, BarnacleExchange.BID_LIMIT, 9,
                    x -> x.placeBid(1, 1, 1));
            rejects("no place and too poor", ship(0, 1, 1, 0), BarnacleExchange.NO_PLACE, 1, x -> x.placeBid(0, 1, 1));
            rejects("no place", ship(99, 1, 1, 0), BarnacleExchange.NO_PLACE, 1, x -> x.placeBid(0, 1, 1));
            rejects("too poor", ship(0, 2, 1, 0), BarnacleExchange.TOO_POOR, 0, x -> x.placeBid(0, 1, 1));
        });
    }

    private static void reasons() {
        shows(0, "Every reason is a constant, and has a detail that is described there.", () -> {
            rejects("ships", Scenes.ships(6), 1, 6, x -> x.addShip(0, 1));
            rejects("barnacles", Scenes.barnacles(16), 2, 16, x -> x.addBarnacle(3, 1));
            rejects("places", ship(9, 4, 3, 1), 3, 4, x -> x.addBarnacle(0, 1));
            rejects("bids", EdgesOfRejections::tenBids, 4, 9, x -> x.placeBid(2, 1, 1));
            rejects("coins", ship(9, 4, 0, 2), 5, 7, x -> x.placeBid(0, 1, 8));
            rejects("offers", Scenes.offers(16), 6, 15, x -> x.placeOffer(0, 1));
            rejects("commands", Scenes.EMPTY, 7, 2, x -> Check.run(x, "s0/1;t;b01@1"));
        });
    }

    private static void rejectedCalls() {
        shows(0, "A rejected call changes nothing but the latest rejection.", () -> {
            refused("addShip", REJECTED, Scenes.FULL, x -> x.addShip(9, 5), "rejection");
            refused("addBarnacle", REJECTED, Scenes.FULL, x -> x.addBarnacle(5, 9), "rejection");
            refused("addBarnacle without a place", REJECTED, ship(5, 2, 1, 1), x -> x.addBarnacle(0, 1), "rejection");
            refused("placeBid without a place", REJECTED, ship(9, 2, 1, 1), x -> x.placeBid(0, 1, 1), "rejection");
            refused("placeBid", REJECTED, Scenes.BUSY, x -> x.placeBid(1, 1, 40), "rejection");
            refused("placeBid of ten", REJECTED, Scenes.bids(10), x -> x.placeBid(2, 1, 1), "rejection");
            refused("placeOffer", REJECTED, Scenes.FULL, x -> x.placeOffer(15, 9), "rejection");
            refused("placeOffer of a busy exchange", REJECTED, Scenes.BUSY, x -> x.placeOffer(3, 1), "rejection");
            // The document says of execute that it empties the input.
            refused("execute", REJECTED, Scenes.BUSY, x -> Check.run(x, ";b11@99"), "rejection", "input");
            // The same rejection once more changes nothing at all.
            refused("again", REJECTED, () -> after(Scenes.FULL, x -> x.addShip(9, 5)), x -> x.addShip(8, 4));
        });
    }

    private static void shipAndBarnacleLimits() {
        shows(0, "`SHIP_LIMIT = 1`: Reason: there are 6 ships.", () -> {
            is("the constant", 1, () -> BarnacleExchange.SHIP_LIMIT);
            is("5 ships", 5, () -> Scenes.ships(5).make().addShip(99, 5));
            fails("6 ships", REJECTED, () -> Scenes.ships(6).make().addShip(99, 5));
            is("the reason", 1, () -> after(Scenes.ships(6), x -> x.addShip(0, 1)).rejectionReason());
        });
        shows(0, "The detail is 6.",
                () -> is("6 ships", 6, () -> after(Scenes.ships(6), x -> x.addShip(0, 1)).rejectionDetail()));
        shows(0, "`BARNACLE_LIMIT = 2`: Reason: there are 16 barnacles.", () -> {
            is("the constant", 2, () -> BarnacleExchange.BARNACLE_LIMIT);
            is("15 barnacles", 15, () -> Scenes.barnacles(15).make().addBarnacle(3, 9));
            fails("16 barnacles", REJECTED, () -> Scenes.barnacles(16).make().addBarnacle(3, 9));
            is("the reason", 2, () -> after(Scenes.barnacles(16), x -> x.addBarnacle(3, 9)).rejectionReason());
        });
        shows(0, "The detail is 16.", () -> is("16 barnacles", 16,
                () -> after(Scenes.barnacles(16), x -> x.addBarnacle(3, 1)).rejectionDetail()));
    }

    private static void noPlace() {
        shows(0, "`NO_PLACE = 3`: Reason: the ship has no free place.", () -> {
            is("the constant", 3, () -> BarnacleExchange.NO_PLACE);
            for (int bids = 0; bids <= 5; bids++) {
                Picture.Scene last = ship(9, 5, 5 - bids, bids);
                rejects(bids + " bids, a barnacle", last, 3, 5, x -> x.addBarnacle(0, 1));
                rejects(bids + " bids, a bid", last, 3, 5, x -> x.placeBid(0, 1, 1));
            }
            for (int bids = 0; bids <= 4; bids++) {
                Picture.Scene free = ship(9, 5, 4 - bids, bids);
                int count = bids;
                is(bids + " bids and a free place, a barnacle", 4 - count, () -> free.make().addBarnacle(0, 1));
                is(bids + " bids and a free place, a bid", count, () -> free.make().placeBid(0, 1, 1));
            }
            BarnacleExchange x = ship(9, 1, 0, 1).make();
            x.passTide();
            x.passTide();
            rejects("a bid of age 2 keeps its place", x, 3, 1, () -> x.addBarnacle(0, 1));
            x.passTide();
            is("an expired one does not", 0, () -> x.addBarnacle(0, 1));
        });
        shows(0, "The detail is its capacity.", () -> {
            for (int capacity = 1; capacity <= 5; capacity++) {
                rejects("a barnacle", ship(9, capacity, capacity, 0), 3, capacity, x -> x.addBarnacle(0, 1));
                rejects("a bid", ship(9, capacity, 0, capacity), 3, capacity, x -> x.placeBid(0, 1, 1));
            }
            rejects("not that of another ship", () -> after(ship(9, 1, 1, 0), x -> x.addShip(0, 2)), 3, 1,
                    x -> x.addBarnacle(0, 1));
        });
    }

    private static void bidLimit() {
        shows(0, "`BID_LIMIT = 4`: Reason: 10 bids are open.", () -> {
            is("the constant", 4, () -> BarnacleExchange.BID_LIMIT);
            is("9 bids", 9, () -> Scenes.bids(9).make().placeBid(2, 1, 1));
            rejects("10 bids", Scenes.bids(10), 4, 0, x -> x.placeBid(2, 1, 1));
            is("10 bids, one of them cancelled", 10, () -> after(Scenes.bids(10), x -> x.cancelBid(5))
                    .placeBid(2, 1, 1));
            is("10 bids, two of them traded", 10, () -> after(Scenes.bids(10), BarnacleExchange::passTide)
                    .placeBid(2, 1, 1));
        });
        shows(0, "The detail is the id of the last one in the order of bids.", () -> {
            rejects("the lowest price was placed first", Scenes.bids(10), 4, 0, x -> x.placeBid(2, 1, 1));
            rejects("of the same price, the latest", EdgesOfRejections::tenBids, 4, 9, x -> x.placeBid(2, 1, 1));
            rejects("the lowest price was placed in between", Scenes.bids(10), 4, 10, x -> {
                x.cancelBid(4);
                x.placeBid(0, 9, 4);
                return x.placeBid(2, 1, 1);
            });
            rejects("the new bid would come first", Scenes.bids(10), 4, 0, x -> x.placeBid(2, 1, 99));
        });
    }

    private static void tooPoor() {
        shows(0, "`TOO_POOR = 5`: Reason: the coins of the ship that are not reserved are fewer than the price.", () -> {
            is("the constant", 5, () -> BarnacleExchange.TOO_POOR);
            for (int bids = 0; bids <= 4; bids++) {
                Picture.Scene scene = ship(20, 5, 0, bids);
                int count = bids;
                is(bids + " bids, all that is left", bids, () -> scene.make().placeBid(0, 1, 20 - count));
                rejects(bids + " bids, one coin more", scene, 5, 20 - count, x -> x.placeBid(0, 1, 21 - count));
            }
            BarnacleExchange x = ship(10, 5, 0, 1).make();
            is("after a cancel", 0, () -> x.cancelBid(0));
            is("all coins", 1, () -> x.placeBid(0, 1, 10));
        });
        shows(0, "The detail is their number.", () -> {
            rejects("none", ship(0, 1, 0, 0), 5, 0, x -> x.placeBid(0, 1, 1));
            rejects("none that is not reserved", ship(3, 5, 0, 3), 5, 0, x -> x.placeBid(0, 1, 99));
            rejects("98", ship(98, 1, 0, 0), 5, 98, x -> x.placeBid(0, 1, 99));
            rejects("of a ship that has bought", Scenes.BUSY, 5, 78 - 25, x -> x.placeBid(0, 1, 54));
        });
    }

    private static void offered() {
        shows(0, "`OFFERED = 6`: Reason: there is an open offer for the barnacle.", () -> {
            is("the constant", 6, () -> BarnacleExchange.OFFERED);
            rejects("offered", Scenes.barnacles(2), 6, 0, x -> x.placeOffer(0, 1));
            is("not offered", 1, () -> Scenes.barnacles(2).make().placeOffer(1, 1));
            is("cancelled", 1, () -> after(Scenes.barnacles(2), x -> x.cancelOffer(0)).placeOffer(0, 1));
        });
        shows(0, "The detail is the id of this offer.", () -> {
            for (int barnacle = 0; barnacle < 16; barnacle++) {
                int index = barnacle;
                rejects("barnacle " + index, Scenes.offers(16), 6, 15 - index, x -> x.placeOffer(index, 99));
            }
            rejects("a later one", Scenes.barnacles(2), 6, 1, x -> {
                x.cancelOffer(0);
                x.placeOffer(0, 9);
                return x.placeOffer(0, 9);
            });
        });
    }

    private static void commandRejected() {
        shows(0, "`COMMAND_REJECTED = 7`: Reason: a command is rejected.", () -> {
            is("the constant", 7, () -> BarnacleExchange.COMMAND_REJECTED);
            String[] inputs = {"s1/1;s1/1;s1/1;s1/1;s1/1;s1/1;s1/1", "s1/1;a01;a01", "s1/1;b01@2", "s1/1;a01;o0@1;o0@1"};
            for (String input : inputs) {
                is(input, 7, () -> after(Scenes.EMPTY, x -> Check.run(x, input)).rejectionReason());
            }
        });
        shows(0, "The detail is the number of the command, from 0.", () -> {
            for (int number = 0; number <= 28; number++) {
                String input = "t;".repeat(number) + "a01";
                rejects("number " + number, Scenes.barnacles(16), 7, number, x -> Check.run(x, input));
            }
            rejects("the first of two", Scenes.barnacles(16), 7, 1, x -> Check.run(x, "t;a01;a01"));
        });
        shows(0, "The reason for which the method of this command rejects it is the cause.", () -> {
            cause(Scenes.ships(6), "s1/1", 1);
            cause(Scenes.barnacles(16), "a31", 2);
            cause(Scenes.barnacles(5), "a01", 3);
            cause(Scenes.barnacles(5), "b01@1", 3);
            cause(Scenes.bids(10), "b21@1", 4);
            cause(Scenes.ships(1), "b01@10", 5);
            cause(Scenes.barnacles(1), "o0@1", 6);
            cause(EdgesOfRejections::sixteen, "a01", 2);
            cause(EdgesOfRejections::tenBids, "b11@1", 4);
            cause(ship(0, 1, 1, 0), "b01@1", 3);
        });
    }

    private static void cause(Picture.Scene scene, String input, int cause) {
        BarnacleExchange x = scene.make();
        rejects(input, x, 7, 0, () -> Check.run(x, input));
        is(input + ", the cause", cause, x::causeReason);
    }

    private static void exceptions() {
        shows(0, "A call that throws an exception changes nothing, except where this is stated.", () -> {
            for (Picture.Scene scene : new Picture.Scene[] {Scenes.BUSY, Scenes.FULL}) {
                refusedAll(OUT, scene, x -> x.addBarnacle(6, 1), x -> x.giveCoins(-1, 1), x -> x.coinsOf(6),
                        x -> x.reservedCoins(-1), x -> x.capacityOf(6), x -> x.loadOf(-1), x -> x.freePlaces(6),
                        x -> x.barnacleAt(-1, 0), x -> x.shipOf(16), x -> x.gradeOf(-1), x -> x.isOffered(16),
                        x -> x.placeBid(6, 1, 1), x -> x.placeOffer(16, 1), x -> x.writeShip(6), x -> x.outputAt(99));
                refusedAll(ILLEGAL, scene, x -> x.addShip(100, 1), x -> x.addBarnacle(0, 10), x -> x.giveCoins(0, 0),
                        x -> x.placeBid(0, 10, 1), x -> x.placeBid(0, 1, 100), x -> x.placeOffer(0, 0),
                        x -> x.setFee(10), x -> x.appendInput((char) 31));
                refusedAll(NONE, scene, x -> x.barnacleAt(0, 5), x -> x.cancelBid(99), x -> x.cancelOffer(99),
                        x -> x.bidAt(10), x -> x.offerAt(16), x -> x.shipOfBid(99), x -> x.gradeOfBid(-1),
                        x -> x.priceOfBid(99), x -> x.ageOfBid(-1), x -> x.barnacleOfOffer(99),
                        x -> x.priceOfOffer(-1), x -> x.ageOfOffer(99), x -> x.matchFor(99),
                        x -> x.matchByBarnacles(99), x -> x.buyerOf(10), x -> x.sellerOf(10), x -> x.barnacleOf(-1),
                        x -> x.priceOf(10), x -> x.shipByWealth(6), BarnacleExchange::causeReason);
            }
            refusedAll(STATE, Scenes.FULL, x -> x.appendInput('t'));
            refusedAll(STATE, Scenes.EMPTY, BarnacleExchange::undo, BarnacleExchange::restoreSnapshot);
            refusedAll(NO_NUMBER, Scenes.EMPTY, BarnacleExchange::meanPrice, BarnacleExchange::offeredShare);
            refusedAll(NONE, Scenes.EMPTY, BarnacleExchange::spread, BarnacleExchange::syntaxErrorOffset,
                    BarnacleExchange::rejectionReason, BarnacleExchange::rejectionDetail);
            // Stated is: what was rejected, the offset of a syntax error, and that the input is empty.
            refused("a rejection", REJECTED, Scenes.FULL, x -> x.addShip(1, 1), "rejection");
            refused("a syntax error", ILLEGAL, Scenes.BUSY, x -> Check.run(x, "!"), "input", "syntax error");
            refused("a failing command", STATE, Scenes.BUSY, x -> Check.run(x, ";x99"), "input");
        });
    }

    private static void refusedAll(Class<? extends RuntimeException> want, Picture.Scene scene, Act... acts) {
        for (int i = 0; i < acts.length; i++) {
            refused("call " + i + " for " + want.getSimpleName(), want, scene, acts[i]);
        }
    }

    private static void severalExceptions() {
        shows(0, "If several exceptions of a method apply, the one that is listed first is thrown.", () -> {
            refused("addShip: range, limit", ILLEGAL, Scenes.FULL, x -> x.addShip(100, 5));
            refused("addShip: range of the capacity, limit", ILLEGAL, Scenes.FULL, x -> x.addShip(0, 6));
            refused("addBarnacle: ship, range", OUT, Scenes.BUSY, x -> x.addBarnacle(3, 0));
            refused("addBarnacle: ship, limit", OUT, Scenes.FULL, x -> x.addBarnacle(6, 1));
            refused("addBarnacle: ship, range, limit", OUT, Scenes.FULL, x -> x.addBarnacle(-1, 10));
            refused("addBarnacle: range, limit", ILLEGAL, Scenes.FULL, x -> x.addBarnacle(0, 10));
            refused("addBarnacle: range, place", ILLEGAL, ship(9, 1, 1, 0), x -> x.addBarnacle(0, 0));
            refused("giveCoins: ship, range", OUT, Scenes.BUSY, x -> x.giveCoins(3, 0));
            refused("barnacleAt: ship, position", OUT, Scenes.BUSY, x -> x.barnacleAt(3, -1));
            refused("placeBid: ship, range", OUT, Scenes.BUSY, x -> x.placeBid(3, 0, 100));
            refused("placeBid: ship, limit", OUT, Scenes.FULL, x -> x.placeBid(6, 1, 1));
            refused("placeBid: range of the grade, limit", ILLEGAL, Scenes.FULL, x -> x.placeBid(0, 10, 1));
            refused("placeBid: range of the price, limit", ILLEGAL, Scenes.FULL, x -> x.placeBid(0, 1, 0));
            refused("placeBid: range, place", ILLEGAL, ship(9, 1, 1, 0), x -> x.placeBid(0, 0, 1));
            refused("placeBid: range, coins", ILLEGAL, ship(9, 1, 0, 0), x -> x.placeBid(0, 1, 100));
            refused("placeBid: range of the grade, coins", ILLEGAL, ship(9, 1, 0, 0), x -> x.placeBid(0, 0, 99));
            refused("placeOffer: barnacle, range", OUT, Scenes.BUSY, x -> x.placeOffer(5, 0));
            refused("placeOffer: range, offered", ILLEGAL, Scenes.BUSY, x -> x.placeOffer(1, 100));
            refused("appendInput: code, length", ILLEGAL, Scenes.FULL, x -> x.appendInput((char) 127));
            Picture.Scene noInput = Scenes.barnacles(16);
            refused("execute: syntax, failure", ILLEGAL, noInput, x -> Check.run(x, "x99;"), "syntax error");
            refused("execute: syntax, rejection", ILLEGAL, noInput, x -> Check.run(x, "a01;"), "syntax error");
            refused("execute: failure, then rejection", STATE, noInput, x -> Check.run(x, "x99;a01"));
            // The first command that fails counts, so this is no failure but a rejection.
            refused("execute: rejection, then failure", REJECTED, noInput, x -> Check.run(x, "a01;x99"), "rejection");
            refused("execute: a command with a wrong ship that would be rejected", STATE, noInput,
                    x -> Check.run(x, "a91"));
            refused("execute: a command out of range that would be rejected", STATE, noInput,
                    x -> Check.run(x, "a00"));
        });
    }

    private static void furtherRules() {
        shows(0, "A call of execute that throws IllegalArgumentException or IllegalStateException does not change the"
                + " latest rejection.", () -> {
            BarnacleExchange x = new BarnacleExchange();
            fails("a syntax error ahead of any rejection", ILLEGAL, () -> Check.run(x, "s0/1;b01@1;!"));
            fails("no reason", NONE, x::rejectionReason);
            fails("a failure ahead of any rejection", STATE, () -> Check.run(x, "x0;s0/1;b01@1"));
            fails("no reason yet", NONE, x::rejectionReason);
            fails("no detail", NONE, x::rejectionDetail);
            fails("no cause", NONE, x::causeReason);
            rejects("a command", x, 7, 2, () -> Check.run(x, "t;s0/1;b01@1"));
            fails("a syntax error", ILLEGAL, () -> Check.run(x, "s0/1;a01;a01;"));
            is("kept", "7 2 5", () -> Picture.rejection(x));
            fails("a failure", STATE, () -> Check.run(x, "s0/1;a01;x0;a01"));
            is("kept again", "7 2 5", () -> Picture.rejection(x));
            fails("no input", ILLEGAL, x::execute);
            is("kept once more", "7 2 5", () -> Picture.rejection(x));
            x.addShip(0, 1);
            rejects("a call", x, 5, 0, () -> x.placeBid(0, 1, 1));
            fails("a syntax error", ILLEGAL, () -> Check.run(x, "a01;a01;!"));
            fails("a failure", STATE, () -> Check.run(x, "a01;x0;a01"));
            is("kept after a call", "5 0 throws.NoSuchElementException", () -> Picture.rejection(x));
        });
    }

    private static void rejectionReason() {
        shows(58, "Returns the reason of the latest rejection.", () -> {
            BarnacleExchange x = ship(5, 2, 1, 0).make();
            fails("too poor", REJECTED, () -> x.placeBid(0, 1, 6));
            is("the first", 5, x::rejectionReason);
            x.placeOffer(0, 9);
            is("kept by a change", 5, x::rejectionReason);
            fails("offered", REJECTED, () -> x.placeOffer(0, 9));
            is("the second", 6, x::rejectionReason);
            fails("a command", REJECTED, () -> Check.run(x, "o0@9"));
            is("the third", 7, x::rejectionReason);
            is("right commands", 1, () -> Check.run(x, "t"));
            is("kept by commands", 7, x::rejectionReason);
            x.undo();
            is("kept by undo", 7, x::rejectionReason);
            fails("a wrong argument", ILLEGAL, () -> x.placeOffer(0, 100));
            is("kept by a wrong argument", 7, x::rejectionReason);
            fails("too poor again", REJECTED, () -> x.placeBid(0, 1, 6));
            is("the fourth", 5, x::rejectionReason);
        });
        shows(58, "Returns the reason, one of the constants.", () -> {
            is("the least", BarnacleExchange.SHIP_LIMIT,
                    () -> after(Scenes.ships(6), x -> x.addShip(0, 1)).rejectionReason());
            is("the greatest", BarnacleExchange.COMMAND_REJECTED,
                    () -> after(Scenes.ships(6), x -> Check.run(x, "s0/1")).rejectionReason());
        });
        shows(58, "Throws `NoSuchElementException` if no call was rejected", () -> {
            refused("no calls", NONE, Scenes.EMPTY, BarnacleExchange::rejectionReason);
            refused("no rejected calls", NONE, Scenes.bids(10), BarnacleExchange::rejectionReason);
            refused("wrong arguments", NONE, () -> after(Scenes.bids(10), x -> x.addShip(0, 0)),
                    BarnacleExchange::rejectionReason);
        });
    }

    private static void rejectionDetail() {
        shows(59, "Returns the detail of the latest rejection.", () -> {
            BarnacleExchange x = ship(5, 2, 1, 0).make();
            fails("too poor", REJECTED, () -> x.placeBid(0, 1, 6));
            is("the coins", 5, x::rejectionDetail);
            x.giveCoins(0, 9);
            is("kept by a change", 5, x::rejectionDetail);
            x.placeOffer(0, 9);
            fails("offered", REJECTED, () -> x.placeOffer(0, 9));
            is("the offer", 0, x::rejectionDetail);
            fails("a command", REJECTED, () -> Check.run(x, "t;o0@9"));
            is("the command", 1, x::rejectionDetail);
        });
        shows(59, "Returns the detail.", () -> {
            is("the least", 0, () -> after(ship(0, 1, 0, 0), x -> x.placeBid(0, 1, 1)).rejectionDetail());
            is("the coins of a rich ship", 98, () -> after(ship(98, 1, 0, 0), x -> x.placeBid(0, 1, 99))
                    .rejectionDetail());
        });
        shows(59, "Throws `NoSuchElementException` if no call was rejected", () -> {
            refused("no calls", NONE, Scenes.EMPTY, BarnacleExchange::rejectionDetail);
            refused("no rejected calls", NONE, Scenes.bids(10), BarnacleExchange::rejectionDetail);
            refused("wrong arguments", NONE, () -> after(Scenes.bids(10), x -> x.addShip(0, 0)),
                    BarnacleExchange::rejectionDetail);
        });
    }

    private static void causeReason() {
        shows(60, "Returns the reason of the command that caused the latest rejection.", () -> {
            BarnacleExchange x = ship(5, 2, 1, 0).make();
            fails("too poor", REJECTED, () -> Check.run(x, "b01@6;b01@1;b01@1"));
            is("the first", 5, x::causeReason);
            fails("no place", REJECTED, () -> Check.run(x, "b01@1;b01@1"));
            is("the second", 3, x::causeReason);
            x.giveCoins(0, 9);
            is("kept by a change", 3, x::causeReason);
            fails("a call", REJECTED, () -> x.placeBid(0, 1, 99));
            fails("none of a call", NONE, x::causeReason);
            fails("too poor again", REJECTED, () -> Check.run(x, "b01@99"));
            is("the third", 5, x::causeReason);
        });
        shows(60, "Returns the reason, one of the constants.", () -> {
            is("the least", BarnacleExchange.SHIP_LIMIT,
                    () -> after(Scenes.ships(6), x -> Check.run(x, "s0/1")).causeReason());
            is("the greatest", BarnacleExchange.OFFERED,
                    () -> after(Scenes.offers(1), x -> Check.run(x, "o0@1")).causeReason());
        });
        shows(60, "Throws `NoSuchElementException` if no call was rejected, or the latest rejection has another reason"
                + " than COMMAND_REJECTED", () -> {
            refused("no calls", NONE, Scenes.EMPTY, BarnacleExchange::causeReason);
            refused("no rejected calls", NONE, Scenes.bids(10), BarnacleExchange::causeReason);
            refused("a syntax error", NONE, () -> after(Scenes.EMPTY, x -> Check.run(x, "!")),
                    BarnacleExchange::causeReason);
            refused("SHIP_LIMIT", NONE, () -> after(Scenes.ships(6), x -> x.addShip(0, 1)),
                    BarnacleExchange::causeReason);
            refused("OFFERED", NONE, () -> after(Scenes.offers(1), x -> x.placeOffer(0, 1)),
                    BarnacleExchange::causeReason);
            refused("TOO_POOR after a command", NONE, () -> after(Scenes.offers(1), x -> {
                Check.answerOf(() -> Check.run(x, "o0@1"));
                x.placeBid(0, 1, 9);
                return x.placeBid(0, 1, 91);
            }), BarnacleExchange::causeReason);
        });
    }
}
