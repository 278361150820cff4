import java.util.NoSuchElementException;

/** Promises 55 to 57: commands. */
public final class CommandsTest {
    private static final Class<IllegalArgumentException> ILLEGAL = IllegalArgumentException.class;
    private static final Class<IllegalStateException> STATE = IllegalStateException.class;
    private static final Class<NoSuchElementException> NONE = NoSuchElementException.class;

    private CommandsTest() {
    }

    public static void main(String[] args) {
        appendInput();
        everyCommand();
        numbersOfOneAndTwoDigits();
        mostCommands();
        allOrNone();
        otherFailures();
        rejectedCommands();
        theFirstFailureCounts();
        syntaxErrors();
        viablePrefixes();
        earlierInputIsForgotten();
        latestSyntaxError();
        Check.end("CommandsTest", 55, 57);
    }

    private static void appendInput() {
        BarnacleExchange x = new BarnacleExchange();
        Check.fails(55, "code 31", ILLEGAL, () -> x.appendInput((char) 31));
        Check.fails(55, "code 127", ILLEGAL, () -> x.appendInput((char) 127));
        Check.fails(55, "code 0", ILLEGAL, () -> x.appendInput((char) 0));
        Check.fails(55, "code 65535", ILLEGAL, () -> x.appendInput((char) 65535));
        Check.is(55, "code 32", 1, () -> x.appendInput(' '));
        Check.is(55, "code 126", 2, () -> x.appendInput('~'));
        for (int length = 3; length <= 60; length++) {
            int due = length;
            Check.is(55, "length " + due, due, () -> x.appendInput('t'));
        }
        Check.fails(55, "60 characters", STATE, () -> x.appendInput('t'));
        Check.fails(55, "60 characters and a wrong code", ILLEGAL, () -> x.appendInput((char) 31));
        Check.fails(55, "nothing was appended", STATE, () -> x.appendInput(';'));
        Check.fails(56, "a syntax error", ILLEGAL, x::execute);
        Check.is(57, "its offset", 0, x::syntaxErrorOffset);
        Check.is(55, "empty after an exception", 1, () -> x.appendInput('t'));
        Check.is(56, "a tide", 1, x::execute);
        Check.is(55, "empty after commands", 1, () -> x.appendInput('t'));
    }

    private static void everyCommand() {
        BarnacleExchange x = new BarnacleExchange();
        Check.is(56, "ships", 2, () -> Check.run(x, "s50/3;s07/5"));
        Check.is(56, "coins of ship 0", 50, () -> x.coinsOf(0));
        Check.is(56, "capacity of ship 0", 3, () -> x.capacityOf(0));
        Check.is(56, "coins of ship 1", 7, () -> x.coinsOf(1));
        Check.is(56, "capacity of ship 1", 5, () -> x.capacityOf(1));
        Check.is(56, "barnacles", 2, () -> Check.run(x, "a14;a19"));
        Check.is(56, "ship of a barnacle", 1, () -> x.shipOf(0));
        Check.is(56, "grade of a barnacle", 4, () -> x.gradeOf(0));
        Check.is(56, "coins", 1, () -> Check.run(x, "c1+13"));
        Check.is(56, "coins are given", 20, () -> x.coinsOf(1));
        Check.is(56, "bids", 2, () -> Check.run(x, "b02@21;b03@8"));
        Check.is(56, "ship of a bid", 0, () -> x.shipOfBid(0));
        Check.is(56, "grade of a bid", 2, () -> x.gradeOfBid(0));
        Check.is(56, "price of a bid", 21, () -> x.priceOfBid(0));
        Check.is(56, "offers", 2, () -> Check.run(x, "o0@10;o1@9"));
        Check.is(56, "barnacle of an offer", 0, () -> x.barnacleOfOffer(0));
        Check.is(56, "price of an offer", 10, () -> x.priceOfOffer(0));
        Check.is(56, "cancels", 2, () -> Check.run(x, "x1;y1"));
        Check.is(56, "the other bid", 0, () -> x.bidAt(0));
        Check.is(56, "bids left", 1, x::bidCount);
        Check.is(56, "the other offer", 0, () -> x.offerAt(0));
        Check.is(56, "offers left", 1, x::offerCount);
        Check.is(56, "a fee", 1, () -> Check.run(x, "f3"));
        Check.is(56, "the fee is set", 3, x::fee);
        Check.is(56, "a tide", 1, () -> Check.run(x, "t"));
        Check.is(56, "the trade", 15, () -> x.priceOf(0));
        Check.is(56, "the fee is paid", 3, x::exchangeCoins);
        Check.is(56, "ids go on", 2, () -> x.placeBid(1, 1, 1));
    }

    private static void numbersOfOneAndTwoDigits() {
        BarnacleExchange x = new BarnacleExchange();
        Check.is(56, "zeros ahead", 4, () -> Check.run(x, "s9/5;s09/5;s0/1;s00/1"));
        Check.is(56, "9", 9, () -> x.coinsOf(0));
        Check.is(56, "09", 9, () -> x.coinsOf(1));
        Check.is(56, "0", 0, () -> x.coinsOf(2));
        Check.is(56, "more", 5, () -> Check.run(x, "c0+1;c0+01;c0+99;a01;o00@05"));
        Check.is(56, "the sum", 110, () -> x.coinsOf(0));
        Check.is(56, "the price", 5, () -> x.priceOfOffer(0));
        Check.is(56, "y00", 1, () -> Check.run(x, "y00"));
        x.addShip(0, 5);
        x.addShip(0, 5);
        for (int i = 1; i < 14; i++) {
            x.addBarnacle(i < 5 ? 0 : i < 10 ? 4 : 5, 3);
        }
        Check.is(56, "barnacle 13", 1, () -> Check.run(x, "o13@99"));
        Check.is(56, "it is offered", true, () -> x.isOffered(13));
        Check.is(56, "its price", 99, () -> x.priceOfOffer(1));
        for (int i = 0; i < 12; i++) {
            x.placeBid(1, 1, 1);
            x.cancelBid(i);
        }
        x.placeBid(1, 1, 1);
        Check.is(56, "bid 12", 1, () -> Check.run(x, "x12"));
        Check.is(56, "it is cancelled", 0, x::bidCount);
    }

    private static void mostCommands() {
        BarnacleExchange x = new BarnacleExchange();
        Check.is(56, "30 tides", 30, () -> Check.run(x, "t;".repeat(29) + "t"));
        Check.is(56, "tides", 30, x::tideCount);
        Check.is(61, "one change", 0, x::undo);
        Check.is(56, "none is left", 0, x::tideCount);
        Check.fails(56, "60 characters that end too early", ILLEGAL, () -> Check.run(x, "t;".repeat(30)));
        Check.is(57, "the length", 60, x::syntaxErrorOffset);
        Check.is(56, "no tides", 0, x::tideCount);
        Check.is(56, "60 characters", 14, () -> Check.run(x, "f1;".repeat(6) + "s9/5;" + "c0+10;".repeat(5) + "c0+10;t"));
        Check.is(56, "coins", 69, () -> x.coinsOf(0));
    }

    private static void allOrNone() {
        BarnacleExchange x = new BarnacleExchange();
        Check.run(x, "s30/4;a05;o0@9;b01@8;f2");
        Check.rejects(56, "the last one", x, BarnacleExchange.COMMAND_REJECTED, 8,
                () -> Check.run(x, "s1/1;a05;c0+5;x0;y0;b09@7;o1@5;t;o1@6"));
        Check.is(60, "the cause", BarnacleExchange.OFFERED, x::causeReason);
        Check.is(56, "ships", 1, x::shipCount);
        Check.is(56, "barnacles", 1, x::barnacleCount);
        Check.is(56, "coins", 30, () -> x.coinsOf(0));
        Check.is(56, "coins given", 30, x::allCoinsGiven);
        Check.is(56, "the bid", 8, () -> x.priceOfBid(0));
        Check.is(56, "bids", 1, x::bidCount);
        Check.is(56, "the offer", 9, () -> x.priceOfOffer(0));
        Check.is(56, "offers", 1, x::offerCount);
        Check.is(56, "tides", 0, x::tideCount);
        Check.is(56, "fee", 2, x::fee);
        Check.is(56, "the age", 0, () -> x.ageOfBid(0));
        Check.is(56, "the next bid", 1, () -> x.placeBid(0, 1, 1));
        x.addBarnacle(0, 1);
        Check.is(56, "the next offer", 1, () -> x.placeOffer(1, 1));
        Check.is(61, "three and one change", 3, x::undo);
    }

    private static void otherFailures() {
        BarnacleExchange x = new BarnacleExchange();
        x.addShip(0, 1);
        Check.rejects(56, "a rejection", x, BarnacleExchange.TOO_POOR, 0, () -> x.placeBid(0, 1, 1));
        String[] inputs = {
            "s0/0", "s1/6", "s1/9", "a11", "a00", "c1+1", "c0+0", "c0+00", "b11@1", "b00@1", "b01@0", "b11@0", "o0@1",
            "o16@1", "x0", "x99", "y0", "t;t;a99",
        };
        for (String input : inputs) {
            Check.fails(56, input, STATE, () -> Check.run(x, input));
            Check.is(55, "empty after " + input, 1, () -> x.appendInput('f'));
            Check.is(56, "f9 after " + input, 1, () -> Check.run(x, "9"));
        }
        Check.is(56, "tides", 0, x::tideCount);
        Check.is(58, "the latest rejection is the old one", BarnacleExchange.TOO_POOR, x::rejectionReason);
        Check.is(59, "its detail", 0, x::rejectionDetail);
        Check.fails(60, "no cause", NONE, x::causeReason);
        Check.fails(57, "no syntax error", NONE, x::syntaxErrorOffset);
        Check.is(56, "undo still finds 8 changes", 7, x::undo);
        x.addBarnacle(0, 4);
        Check.fails(56, "a price of 0", STATE, () -> Check.run(x, "t;o0@0"));
    }

    private static void rejectedCommands() {
        BarnacleExchange x = new BarnacleExchange();
        causes(x, "s1/1;s1/1;s1/1;s1/1;s1/1;s1/1;s1/1", 6, BarnacleExchange.SHIP_LIMIT);
        Check.run(x, "s60/5;s60/5;s60/5;s60/5;s60/1");
        Check.run(x, "a01;a02;a03;a04;a05;a11;a12;a13;a14;a15");
        Check.run(x, "a21;a22;a23;a24;a25");
        causes(x, "a41;a31", 1, BarnacleExchange.BARNACLE_LIMIT);
        causes(x, "a01", 0, BarnacleExchange.NO_PLACE);
        causes(x, "b31@60;b41@60;b41@1", 2, BarnacleExchange.NO_PLACE);
        causes(x, "t;b31@60;t;b31@1", 3, BarnacleExchange.TOO_POOR);
        causes(x, "o3@5;o4@5;o3@5", 2, BarnacleExchange.OFFERED);
        Check.run(x, "s9/5;b31@1;b31@1;b31@1;b31@1;b31@1");
        Check.run(x, "b51@1;b51@1;b51@1;b51@1");
        causes(x, "b51@1;b51@1", 1, BarnacleExchange.BID_LIMIT);
        Check.is(60, "still the latest", BarnacleExchange.BID_LIMIT, x::causeReason);
        Check.rejects(16, "a call of its own", x, BarnacleExchange.NO_PLACE, 5, () -> x.addBarnacle(0, 1));
        Check.fails(60, "no command", NONE, x::causeReason);
    }

    private static void causes(BarnacleExchange x, String input, int number, int cause) {
        Check.rejects(56, input, x, BarnacleExchange.COMMAND_REJECTED, number, () -> Check.run(x, input));
        Check.is(60, input, cause, x::causeReason);
    }

    private static void theFirstFailureCounts() {
        BarnacleExchange x = new BarnacleExchange();
        x.addShip(0, 1);
        causes(x, "b01@5;a99", 0, BarnacleExchange.TOO_POOR);
        Check.fails(56, "the rejection comes later", STATE, () -> Check.run(x, "a99;b01@6"));
        Check.is(59, "still the old one", 0, x::rejectionDetail);
        Check.fails(56, "a syntax error ahead of all", ILLEGAL, () -> Check.run(x, "b01@5;a99;"));
        Check.is(58, "still the old reason", BarnacleExchange.COMMAND_REJECTED, x::rejectionReason);
        Check.is(60, "still the old cause", BarnacleExchange.TOO_POOR, x::causeReason);
    }

    private static void syntaxErrors() {
        String[] inputs = {
            "", "z", "S", " t", ";", "1", "s", "s/", "s5", "s5/", "s5//", "s5/x", "s123", "s12/34", "s1/1 ", "s-1/1",
            "a", "a1", "a12;", "a123", "ax", "a1x", "c", "c12", "c1+", "c1+x", "c1+123", "c1@1", "cx", "b", "b1", "b12",
            "b123", "b12@", "b12@x", "b12@345", "b12+", "o", "o1", "o12", "o123", "o1@", "o1@123", "o1+", "x", "x123",
            "xa", "x1;", "x1,t", "y", "y123", "y;", "t1", "tt", "t;", "t;;t", "t;z", "f", "f12", "fx", "f1;t;s1/1;s1/",
            "t t", "t:", "c1+0:", "x/", "x:", "a0/", "a0:",
        };
        int[] offsets = {
            0, 0, 0, 0, 0, 0, 1, 1, 2, 3, 3, 3, 3, 5, 4, 1,
            1, 2, 4, 3, 1, 2, 1, 2, 3, 3, 5, 2, 1, 1, 2, 3,
            3, 4, 4, 6, 3, 1, 2, 3, 3, 3, 5, 2, 1, 3,
            1, 3, 2, 1, 3, 1, 1, 1, 2, 2, 2, 1, 2, 1, 13,
            1, 1, 4, 1, 1, 2, 2,
        };
        BarnacleExchange x = new BarnacleExchange();
        for (int i = 0; i < inputs.length; i++) {
            String input = inputs[i];
            int offset = offsets[i];
            Check.fails(56, "\"" + input + "\"", ILLEGAL, () -> Check.run(x, input));
            Check.is(57, "\"" + input + "\"", offset, x::syntaxErrorOffset);
        }
        Check.is(56, "nothing was executed", 0, x::tideCount);
        Check.fails(56, "no change", STATE, x::undo);
        Check.fails(56, "no rejection", NONE, x::rejectionReason);
    }

    /** Every character of these inputs can follow, but no "~", and they end too early everywhere but at their end. */
    private static void viablePrefixes() {
        String[] commands = {"s12/3", "a12", "c1+23", "b12@34", "o12@34", "x12", "y12", "t", "f1"};
        for (String command : commands) {
            BarnacleExchange x = new BarnacleExchange();
            for (int length = 0; length < command.length(); length++) {
                int due = length;
                String start = command.substring(0, length);
                Check.fails(56, start + "~", ILLEGAL, () -> Check.run(x, start + "~"));
                Check.is(57, start + "~", due, x::syntaxErrorOffset);
                Check.fails(56, "t;" + start + "~t", ILLEGAL, () -> Check.run(x, "t;" + start + "~t"));
                Check.is(57, "t;" + start + "~t", due + 2, x::syntaxErrorOffset);
            }
            Check.fails(56, command + "~", ILLEGAL, () -> Check.run(x, command + "~"));
            Check.is(57, command + "~", command.length(), x::syntaxErrorOffset);
        }
    }

    /** What an earlier input had further on must not complete a later one that ends too early. */
    private static void earlierInputIsForgotten() {
        String[] earlier = {
            "s12/3", "s12/3", "s12/3", "a12", "a12", "c1+2", "c1+2", "c1+2", "b12@3", "b12@3", "b12@3", "o1@2", "o1@2",
            "x1", "y1", "f1", "t;t", "tt",
        };
        String[] later = {
            "s", "s12", "s12/", "a", "a1", "c", "c1", "c1+", "b1", "b12", "b12@", "o1", "o1@", "x", "y", "f", "t;", "",
        };
        for (int i = 0; i < later.length; i++) {
            String first = earlier[i];
            String second = later[i];
            BarnacleExchange x = new BarnacleExchange();
            Check.answerOf(() -> Check.run(x, first));
            Check.fails(56, second + " after " + first, ILLEGAL, () -> Check.run(x, second));
            Check.is(57, second + " after " + first, second.length(), x::syntaxErrorOffset);
        }
    }

    private static void latestSyntaxError() {
        BarnacleExchange x = new BarnacleExchange();
        Check.fails(57, "none yet", NONE, x::syntaxErrorOffset);
        Check.run(x, "t");
        Check.fails(57, "none after commands", NONE, x::syntaxErrorOffset);
        Check.fails(56, "an error", ILLEGAL, () -> Check.run(x, "t;t!"));
        Check.is(57, "an error", 3, x::syntaxErrorOffset);
        Check.run(x, "t;t");
        Check.fails(56, "no such bid", STATE, () -> Check.run(x, "x7"));
        x.undo();
        Check.is(57, "kept", 3, x::syntaxErrorOffset);
        Check.fails(56, "empty input", ILLEGAL, x::execute);
        Check.is(57, "a later one", 0, x::syntaxErrorOffset);
    }
}
