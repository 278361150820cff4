/** The sentences on changes, undo and the snapshot: those of the terms, and promises 61 to 63. */
final class EdgesOfHistory extends Edges {
    private static final Act[] CHANGES = {
        x -> x.addShip(5, 2), x -> x.addBarnacle(0, 9), x -> x.giveCoins(2, 99), x -> x.placeBid(1, 1, 39),
        x -> x.placeOffer(2, 1), x -> x.cancelBid(1), x -> x.cancelOffer(1), BarnacleExchange::passTide,
        x -> x.setFee(9), BarnacleExchange::execute,
    };
    private static final String[] NAMES = {
        "addShip", "addBarnacle", "giveCoins", "placeBid", "placeOffer", "cancelBid", "cancelOffer", "passTide",
        "setFee", "execute",
    };

    private EdgesOfHistory() {
    }

    static void show() {
        whatIsAChange();
        eightChanges();
        whatIsCovered();
        undo();
        changesLeft();
        noChange();
        saveSnapshot();
        restoreSnapshot();
    }

    /** The exchange after so many changes, the last of which gave the last coin. */
    private static Picture.Scene coins(int changes) {
        return () -> {
            BarnacleExchange x = new BarnacleExchange();
            for (int change = 1; change <= changes; change++) {
                if (change == 1) {
                    x.addShip(0, 1);
                } else {
                    x.giveCoins(0, 1);
                }
            }
            return x;
        };
    }

    private static int undoAll(BarnacleExchange x) {
        int undone = 0;
        while (undone < 20 && Check.answerOf(x::undo) instanceof Integer) {
            undone++;
        }
        return undone;
    }

    private static void whatIsAChange() {
        shows(0, "A change is a call of addShip, addBarnacle, giveCoins, placeBid, placeOffer, cancelBid, cancelOffer,"
                + " passTide, setFee or execute that returns a value, also if nothing is different after it.", () -> {
            for (int i = 0; i < CHANGES.length; i++) {
                Act change = CHANGES[i];
                is(NAMES[i] + " can be undone", 1, () -> {
                    BarnacleExchange x = after(Scenes.BUSY, BarnacleExchange::saveSnapshot);
                    x.restoreSnapshot();
                    change.on(x);
                    return undoAll(x);
                });
            }
            counts("the same fee", 1, x -> x.setFee(1));
            counts("a command that sets the same fee", 1, x -> Check.run(x, "f1"));
            counts("a tide without orders", 1, BarnacleExchange::passTide);
            counts("30 commands", 1, x -> Check.run(x, "t;".repeat(29) + "t"));
            counts("a change and what undoes it", 2, x -> x.setFee(2) + x.setFee(1));
            counts("a call that throws", 0, x -> x.setFee(10));
            counts("a rejected call", 6, x -> {
                for (int ship = 0; ship < 6; ship++) {
                    x.addShip(1, 1);
                }
                return x.addShip(1, 1);
            });
            counts("commands with a syntax error", 0, x -> Check.run(x, "t;!"));
            counts("commands that fail", 0, x -> Check.run(x, "t;x0"));
            counts("commands that are rejected", 0, x -> Check.run(x, "t;s0/1;b01@1"));
            counts("a character", 0, x -> x.appendInput('t'));
            counts("saving", 0, BarnacleExchange::saveSnapshot);
            counts("asking", 0, BarnacleExchange::wouldTrade);
            counts("writing", 1, x -> x.addShip(1, 1) + x.writeShip(0));
        });
    }

    private static void counts(String what, int changes, Act act) {
        is(what, changes, () -> undoAll(after(Scenes.EMPTY, act)));
    }

    private static void eightChanges() {
        shows(0, "The latest 8 changes can be undone.", () -> {
            for (int changes = 0; changes <= 20; changes++) {
                BarnacleExchange x = coins(changes).make();
                int undone = Math.min(changes, 8);
                is(changes + " changes", undone, () -> undoAll(x));
                is(changes + " changes, the coins", Math.max(changes - 9, 0), x::allCoins);
            }
            BarnacleExchange x = coins(9).make();
            x.undo();
            x.undo();
            x.giveCoins(0, 50);
            is("9, less 2, and one more", 7, () -> undoAll(x));
            is("the first one is left", 0, x::allCoins);
            is("which added the ship", 1, x::shipCount);
            BarnacleExchange y = coins(8).make();
            is("all of 8", 8, () -> undoAll(y));
            is("none is left", 0, y::shipCount);
            y.addShip(7, 1);
            is("a new one after that", 1, () -> undoAll(y));
        });
    }

    private static void whatIsCovered() {
        shows(0, "Undo and the snapshot cover everything but the input, the output, the latest rejection and the latest"
                + " syntax error; they also cover the ids that are given next.", () -> {
            for (Picture.Scene scene : new Picture.Scene[] {Scenes.BUSY, Scenes.FULL}) {
                String before = Picture.data(scene);
                for (int i = 0; i < CHANGES.length; i++) {
                    Act change = CHANGES[i];
                    if (Check.answerOf(() -> change.on(scene.make())) instanceof Integer) {
                        is(NAMES[i] + " and undo", before, () -> Picture.data(() -> after(scene, x -> {
                            change.on(x);
                            return x.undo();
                        })));
                    }
                }
                is("many changes and the snapshot", before, () -> Picture.data(() -> after(scene, x -> {
                    x.saveSnapshot();
                    manyChanges(x);
                    return x.restoreSnapshot();
                })));
                is("undo in between", before, () -> Picture.data(() -> after(scene, x -> {
                    x.saveSnapshot();
                    x.undo();
                    x.undo();
                    return x.restoreSnapshot();
                })));
            }
            Picture.Scene few = () -> {
                BarnacleExchange x = new BarnacleExchange();
                x.addShip(50, 2);
                x.addBarnacle(0, 3);
                x.addShip(9, 4);
                x.addBarnacle(1, 8);
                return x;
            };
            is("other ships and barnacles in between", Picture.data(few), () -> Picture.data(() -> after(few, x -> {
                x.saveSnapshot();
                undoAll(x);
                x.addShip(60, 5);
                x.addShip(7, 1);
                x.addBarnacle(1, 9);
                x.addBarnacle(0, 1);
                return x.restoreSnapshot();
            })));
            Picture.Scene sixteen = () -> {
                BarnacleExchange x = new BarnacleExchange();
                for (int barnacle = 0; barnacle < 16; barnacle++) {
                    if (barnacle % 4 == 0) {
                        x.addShip(barnacle, 5);
                    }
                    x.addBarnacle(barnacle / 4, 1 + barnacle % 9);
                }
                return x;
            };
            is("other barnacles among 16 in between", Picture.data(sixteen), () -> Picture.data(() -> after(sixteen,
                    x -> {
                x.saveSnapshot();
                undoAll(x);
                x.addShip(50, 5);
                for (int barnacle = x.barnacleCount(); barnacle < 16; barnacle++) {
                    x.addBarnacle(barnacle < 14 ? 3 : barnacle - 14, 9);
                }
                return x.restoreSnapshot();
            })));
            BarnacleExchange x = Scenes.bids(2).make();
            is("a bid", 2, () -> x.placeBid(0, 1, 1));
            x.undo();
            is("its id again", 2, () -> x.placeBid(1, 1, 1));
            x.saveSnapshot();
            x.cancelOffer(0);
            is("an offer", 2, () -> x.placeOffer(0, 1));
            x.undo();
            is("its id again, too", 2, () -> x.placeOffer(0, 2));
            is("a later bid", 3, () -> x.placeBid(2, 1, 1));
            x.restoreSnapshot();
            is("the ids of the snapshot, bid", 3, () -> x.placeBid(2, 1, 1));
            x.cancelOffer(0);
            is("the ids of the snapshot, offer", 2, () -> x.placeOffer(0, 2));
            notCovered();
        });
    }

    private static void manyChanges(BarnacleExchange x) {
        for (int ship = 0; ship < x.shipCount(); ship++) {
            x.giveCoins(ship, 7);
        }
        for (int tide = 0; tide < 3; tide++) {
            x.passTide();
            for (int ship = 0; ship < x.shipCount(); ship++) {
                int bidder = ship;
                Check.answerOf(() -> x.placeBid(bidder, 1, 9));
                Check.answerOf(() -> x.placeOffer(bidder, 3));
                Check.answerOf(() -> x.addBarnacle(bidder, 3));
            }
        }
        x.setFee(9);
        Check.answerOf(() -> x.addShip(50, 5));
        x.passTide();
    }

    /** Undo and the snapshot leave the four parts that they do not cover. */
    private static void notCovered() {
        Picture.Scene later = () -> after(Scenes.BUSY, x -> {
            x.saveSnapshot();
            x.setFee(5);
            Check.type(x, ";f");
            x.writeShip(2);
            Check.answerOf(() -> x.placeBid(0, 1, 99));
            return 0;
        });
        changes("undo leaves them", later, BarnacleExchange::undo, "data", "changes");
        changes("the snapshot leaves them", later, BarnacleExchange::restoreSnapshot, "data", "changes");
        BarnacleExchange x = new BarnacleExchange();
        x.saveSnapshot();
        x.addShip(0, 1);
        fails("a syntax error", ILLEGAL, () -> Check.run(x, "t;t!"));
        fails("a rejected command", REJECTED, () -> Check.run(x, "t;b01@1"));
        x.writeShip(0);
        Check.type(x, "f8");
        x.undo();
        is("the offset after undo", 3, x::syntaxErrorOffset);
        is("the rejection after undo", "7 1 5", () -> Picture.rejection(x));
        is("the output after undo", "0$0(0/1)", () -> Picture.output(x));
        is("the input after undo", 3, () -> x.appendInput(';'));
        x.restoreSnapshot();
        is("the offset after the snapshot", 3, x::syntaxErrorOffset);
        is("the rejection after the snapshot", "7 1 5", () -> Picture.rejection(x));
        is("the output after the snapshot", "0$0(0/1)", () -> Picture.output(x));
        is("the input after the snapshot", 4, () -> x.appendInput('t'));
        is("it can be executed", 2, x::execute);
        is("as it was written", 8, x::fee);
    }

    private static void undo() {
        shows(61, "Undoes the latest change that has not been undone.", () -> {
            BarnacleExchange x = coins(6).make();
            for (int coins = 5; coins > 0; coins--) {
                int left = coins - 1;
                x.undo();
                is("coins", left, () -> x.coinsOf(0));
            }
            x.undo();
            is("the ship", 0, x::shipCount);
            x.addShip(20, 2);
            x.giveCoins(0, 1);
            x.undo();
            x.giveCoins(0, 2);
            x.giveCoins(0, 4);
            x.undo();
            is("the latest of two", 22, () -> x.coinsOf(0));
            x.undo();
            is("then the one before, not the one that was undone", 20, () -> x.coinsOf(0));
            x.undo();
            is("then the ship", 0, x::shipCount);
            changes("what it changes", Scenes.BUSY, BarnacleExchange::undo, "data", "changes");
        });
    }

    private static void changesLeft() {
        shows(61, "Returns the number of changes that can still be undone.", () -> {
            for (int changes = 1; changes <= 18; changes++) {
                BarnacleExchange x = coins(changes).make();
                for (int left = Math.min(changes, 8) - 1; left >= 0; left--) {
                    is("of " + changes, left, x::undo);
                }
            }
            BarnacleExchange x = coins(8).make();
            is("7 of 8", 7, x::undo);
            x.giveCoins(0, 1);
            is("7 again", 7, x::undo);
            x.giveCoins(0, 1);
            x.giveCoins(0, 1);
            is("7 of 9", 7, x::undo);
        });
    }

    private static void noChange() {
        shows(61, "Throws `IllegalStateException` if there is none", () -> {
            refused("no change", STATE, Scenes.EMPTY, BarnacleExchange::undo);
            refused("no change but other calls", STATE, () -> after(Scenes.EMPTY, x -> {
                x.saveSnapshot();
                x.appendInput('t');
                return x.addShip(-1, 1);
            }), BarnacleExchange::undo);
            refused("the only one is undone", STATE, () -> after(coins(1), BarnacleExchange::undo),
                    BarnacleExchange::undo);
            refused("all 8 of 12 are undone", STATE, () -> after(coins(12), EdgesOfHistory::undoAll),
                    BarnacleExchange::undo);
            refused("the snapshot was restored", STATE, () -> after(Scenes.BUSY, BarnacleExchange::restoreSnapshot),
                    BarnacleExchange::undo);
        });
    }

    private static void saveSnapshot() {
        shows(62, "Saves a snapshot of the data, in place of an earlier snapshot.", () -> {
            changes("the first", Scenes.bids(10), BarnacleExchange::saveSnapshot, "snapshot");
            changes("a later one", Scenes.BUSY, BarnacleExchange::saveSnapshot, "snapshot");
            BarnacleExchange x = coins(3).make();
            x.saveSnapshot();
            x.giveCoins(0, 10);
            x.saveSnapshot();
            x.giveCoins(0, 20);
            x.restoreSnapshot();
            is("the later one", 12, () -> x.coinsOf(0));
            x.saveSnapshot();
            x.giveCoins(0, 30);
            x.restoreSnapshot();
            is("one after a restoration", 12, () -> x.coinsOf(0));
            x.giveCoins(0, 1);
            x.saveSnapshot();
            x.undo();
            is("undo", 12, () -> x.coinsOf(0));
            x.restoreSnapshot();
            is("undo leaves the snapshot", 13, () -> x.coinsOf(0));
        });
        shows(62, "Returns the number of ships.", () -> {
            for (int ships = 0; ships <= 6; ships++) {
                is("" + ships, ships, Scenes.ships(ships).make()::saveSnapshot);
            }
            is("of 16 barnacles", 4, Scenes.barnacles(16).make()::saveSnapshot);
        });
    }

    private static void restoreSnapshot() {
        shows(63, "Restores the snapshot, which is kept.", () -> {
            BarnacleExchange x = Scenes.BUSY.make();
            is("as when it was saved", 1, after(Scenes.BUSY, BarnacleExchange::restoreSnapshot)::tideCount);
            for (int times = 1; times <= 3; times++) {
                is("the ships, time " + times, 3, x::restoreSnapshot);
                is("the barnacles", 4, x::barnacleCount);
                is("the bids", 0, x::bidCount);
                is("the fee", 2, x::fee);
                is("the trade", 12, () -> x.priceOf(0));
                x.setFee(9);
                x.addBarnacle(0, 1);
                x.placeBid(1, 1, 9);
            }
            changes("the first time", Scenes.BUSY, BarnacleExchange::restoreSnapshot, "data", "changes");
            changes("the second time", () -> after(Scenes.BUSY, BarnacleExchange::restoreSnapshot),
                    BarnacleExchange::restoreSnapshot);
        });
        shows(63, "No change can be undone after the call.", () -> {
            for (int changes : new int[] {0, 1, 7, 8, 9, 20}) {
                BarnacleExchange x = after(coins(changes), BarnacleExchange::saveSnapshot);
                x.restoreSnapshot();
                fails(changes + " changes", STATE, x::undo);
                x.setFee(3);
                is(changes + " changes and one after it", 0, x::undo);
                is("the fee", 1, x::fee);
                fails("no further one", STATE, x::undo);
            }
        });
        shows(63, "Returns the number of ships.", () -> {
            for (int ships = 0; ships <= 6; ships++) {
                BarnacleExchange x = after(Scenes.ships(ships), BarnacleExchange::saveSnapshot);
                is("" + ships, ships, x::restoreSnapshot);
                Check.answerOf(() -> x.addShip(1, 1));
                is(ships + " again", ships, x::restoreSnapshot);
            }
            BarnacleExchange y = after(Scenes.barnacles(16), BarnacleExchange::saveSnapshot);
            is("of 16 barnacles", 4, y::restoreSnapshot);
        });
        shows(63, "Throws `IllegalStateException` if there is no snapshot", () -> {
            refused("no ships", STATE, Scenes.EMPTY, BarnacleExchange::restoreSnapshot);
            refused("ten bids", STATE, Scenes.bids(10), BarnacleExchange::restoreSnapshot);
            is("the changes can be undone", 7, () -> after(Scenes.bids(10), BarnacleExchange::restoreSnapshot).undo());
        });
    }
}
