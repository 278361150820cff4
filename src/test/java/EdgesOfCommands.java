/** The sentences on text output and commands: those of the terms, and promises 53 to 57. */
final class EdgesOfCommands extends Edges {
    /** Each form of a command, with "n" for a number and "d" for a digit. */
    private static final String[] FORMS = {"sn/d", "add", "cd+n", "bdd@n", "on@n", "xn", "yn", "t", "fd"};
    /** The busy scene without an input. */
    private static final Picture.Scene EMPTIED = () -> after(Scenes.BUSY, x -> {
        x.execute();
        return x.undo();
    });

    private EdgesOfCommands() {
    }

    static void show() {
        writeShip();
        outputAt();
        inputOfCommands();
        formsThatAdd();
        formsThatTrade();
        numbers();
        offsets();
        appendInput();
        execute();
        failures();
        syntaxErrorOffset();
    }

    private static void writeShip() {
        shows(53, "Writes a ship to the output, in place of the earlier output: its index, \"$\", its coins, \"(\", its"
                + " load, \"/\", its capacity, \")\", and for each of its barnacles in their order a space, the index,"
                + " \"g\" and the grade, and \"!\" if it is offered.", () -> {
            changes("another ship", Scenes.BUSY, x -> x.writeShip(0), "output");
            writes(Scenes.BUSY, 0, "0$78(2/5) 3g7! 0g4");
            writes(Scenes.BUSY, 1, "1$79(2/5) 1g7! 2g2");
            writes(Scenes.BUSY, 2, "2$8(1/2) 4g1");
            writes(Scenes.FULL, 5, "5$94(1/1) 6g7!");
            writes(Scenes.barnacles(0), 3, "3$50(0/5)");
            writes(Scenes.barnacles(16), 0, "0$50(5/5) 4g5! 3g4 2g3! 1g2 0g1!");
            writes(Scenes.barnacles(16), 2, "2$50(5/5) 14g6! 13g5 12g4! 11g3 10g2!");
            writes(() -> after(Scenes.EMPTY, x -> x.addShip(0, 1)), 0, "0$0(0/1)");
            writes(() -> after(Scenes.EMPTY, x -> x.addShip(99, 5) + x.giveCoins(0, 1)), 0, "0$100(0/5)");
            BarnacleExchange x = Scenes.barnacles(16).make();
            x.writeShip(0);
            x.writeShip(3);
            is("a short text in place of a long one", "3$50(1/5) 15g7", () -> Picture.output(x));
        });
        shows(53, "An example is \"0$25(2/3) 4g9! 1g3\".", () -> {
            BarnacleExchange x = new BarnacleExchange();
            x.addShip(25, 3);
            x.addShip(0, 5);
            int[] ships = {1, 0, 1, 1, 0};
            int[] grades = {1, 3, 1, 1, 9};
            for (int i = 0; i < ships.length; i++) {
                x.addBarnacle(ships[i], grades[i]);
            }
            x.placeOffer(4, 99);
            x.placeOffer(0, 99);
            writes(() -> x, 0, "0$25(2/3) 4g9! 1g3");
        });
        EdgesOfShips.shipIndex(53, BarnacleExchange::writeShip, (x, ship) -> "0$10(1/3) 0g1".length());
        shows(53, "Returns the length of the output.", () -> {
            is("the least", 8, after(Scenes.EMPTY, x -> x.addShip(0, 1)), x -> x.writeShip(0));
            is("with five barnacles", 37, Scenes.barnacles(16).make(), x -> x.writeShip(2));
            is("with a longer text before", 9, after(Scenes.barnacles(5), x -> x.writeShip(0)), x -> x.writeShip(3));
        });
    }

    private static void is(String what, Object want, BarnacleExchange x, Act act) {
        is(what, want, () -> act.on(x));
    }

    private static void writes(Picture.Scene scene, int ship, String text) {
        BarnacleExchange x = scene.make();
        is(text + ", the length", text.length(), () -> x.writeShip(ship));
        is(text, text, () -> Picture.output(x));
    }

    private static void outputAt() {
        shows(54, "Returns a character of the output.", () -> {
            is("of a ship", "1$79(2/5) 1g7! 2g2", () -> Picture.output(Scenes.BUSY.make()));
            is("as it was written", "1$79(2/5) 1g7! 2g2", () -> {
                BarnacleExchange x = Scenes.BUSY.make();
                x.giveCoins(1, 1);
                return Picture.output(x);
            });
        });
        shows(54, "The output is empty at first.", () -> {
            fails("index 0", OUT, () -> new BarnacleExchange().outputAt(0));
            fails("index 0 of ships", OUT, () -> Scenes.ships(6).make().outputAt(0));
            fails("index 0 after a wrong ship", OUT, () -> after(Scenes.ships(6), x -> x.writeShip(6)).outputAt(0));
        });
        shows(54, "`index`: the index, from 0", () -> {
            is("the first", '1', () -> Scenes.BUSY.make().outputAt(0));
            is("the last", '2', () -> Scenes.BUSY.make().outputAt(17));
        });
        shows(54, "Returns the character.", () -> {
            char[] due = "2$8(1/2) 4g1".toCharArray();
            for (int index = 0; index < due.length; index++) {
                int at = index;
                is("index " + at, due[at], () -> after(Scenes.BUSY, x -> x.writeShip(2)).outputAt(at));
            }
        });
        shows(54, "Throws `IndexOutOfBoundsException` if there is no character at this index", () -> {
            for (int index : new int[] {-1, 18, 19, Integer.MIN_VALUE, Integer.MAX_VALUE}) {
                refused("index " + index + " of 18", OUT, Scenes.BUSY, x -> x.outputAt(index));
            }
            for (int index : new int[] {-1, 0, 1}) {
                refused("index " + index + " of 0", OUT, Scenes.EMPTY, x -> x.outputAt(index));
            }
            BarnacleExchange x = after(Scenes.BUSY, y -> y.writeShip(2));
            is("the last of a shorter text", '1', () -> x.outputAt(11));
            fails("behind a shorter text", OUT, () -> x.outputAt(12));
        });
    }

    private static void inputOfCommands() {
        shows(0, "The input has one or more commands, with \";\" between two of them.", () -> {
            runs("t", 1);
            runs("t;t", 2);
            runs("t;t;t", 3);
            runs("t;".repeat(29) + "t", 30);
            errs("", 0);
            errs(";", 0);
            errs(";t", 0);
            errs("t;", 2);
            errs("t;;t", 2);
            errs("t;;", 2);
            errs("tt", 1);
            errs("t t", 1);
            errs("t,t", 1);
            errs("t:t", 1);
            errs(" t", 0);
            errs("t ", 1);
            errs("t; t", 2);
        });
    }

    private static void runs(String input, int commands) {
        is("\"" + input + "\"", commands, () -> Check.run(new BarnacleExchange(), input));
    }

    private static void errs(String input, int offset) {
        BarnacleExchange x = new BarnacleExchange();
        fails("\"" + input + "\"", ILLEGAL, () -> Check.run(x, input));
        is("\"" + input + "\", the offset", offset, x::syntaxErrorOffset);
    }

    /** The input must do the same as the act. */
    private static void does(Picture.Scene scene, String input, Act act) {
        is("\"" + input + "\"", Picture.data(() -> after(scene, act)),
                () -> Picture.data(() -> after(scene, x -> Check.run(x, input))));
        is("\"" + input + "\", the number of commands", 1, () -> Check.run(scene.make(), input));
    }

    private static void formsThatAdd() {
        shows(0, "\"s\", a number, \"/\" and a digit adds a ship with coins and a capacity.", () -> {
            does(Scenes.trades(3), "s0/1", x -> x.addShip(0, 1));
            does(Scenes.trades(3), "s00/5", x -> x.addShip(0, 5));
            does(Scenes.trades(3), "s99/2", x -> x.addShip(99, 2));
            does(Scenes.trades(3), "s7/3", x -> x.addShip(7, 3));
            failing(Scenes.trades(3), "s7/0", "s7/6", "s7/9");
        });
        shows(0, "\"a\", a digit and a digit adds a barnacle of a grade to a ship.", () -> {
            does(Scenes.trades(3), "a01", x -> x.addBarnacle(0, 1));
            does(Scenes.trades(3), "a29", x -> x.addBarnacle(2, 9));
            does(Scenes.ships(6), "a52", x -> x.addBarnacle(5, 2));
            failing(Scenes.trades(3), "a00", "a51", "a91");
        });
        shows(0, "\"c\", a digit, \"+\" and a number gives coins to a ship.", () -> {
            does(Scenes.trades(3), "c0+1", x -> x.giveCoins(0, 1));
            does(Scenes.trades(3), "c4+99", x -> x.giveCoins(4, 99));
            does(Scenes.trades(3), "c2+05", x -> x.giveCoins(2, 5));
            failing(Scenes.trades(3), "c0+0", "c0+00", "c5+1", "c9+1");
        });
        shows(0, "\"t\" lets a tide pass.", () -> {
            does(Scenes.EMPTY, "t", BarnacleExchange::passTide);
            does(Scenes.bids(10), "t", BarnacleExchange::passTide);
        });
        shows(0, "\"f\" and a digit sets the fee.", () -> {
            does(Scenes.trades(3), "f0", x -> x.setFee(0));
            does(Scenes.trades(3), "f5", x -> x.setFee(5));
            does(Scenes.trades(3), "f9", x -> x.setFee(9));
        });
    }

    private static void failing(Picture.Scene scene, String... inputs) {
        for (String input : inputs) {
            fails("\"" + input + "\"", STATE, () -> Check.run(scene.make(), input));
        }
    }

    private static void formsThatTrade() {
        shows(0, "\"b\", a digit, a digit, \"@\" and a number places a bid of a ship for a grade with a price.", () -> {
            does(Scenes.offers(3), "b01@1", x -> x.placeBid(0, 1, 1));
            does(Scenes.offers(3), "b49@99", x -> x.placeBid(4, 9, 99));
            does(Scenes.offers(3), "b25@07", x -> x.placeBid(2, 5, 7));
            failing(Scenes.offers(3), "b51@1", "b00@1", "b01@0", "b01@00", "b91@1");
        });
        shows(0, "\"o\", a number, \"@\" and a number places an offer for a barnacle with a price.", () -> {
            Picture.Scene unoffered = () -> {
                BarnacleExchange x = Scenes.barnacles(16).make();
                x.passTide();
                x.passTide();
                x.passTide();
                return x;
            };
            does(unoffered, "o0@1", x -> x.placeOffer(0, 1));
            does(unoffered, "o00@99", x -> x.placeOffer(0, 99));
            does(unoffered, "o9@09", x -> x.placeOffer(9, 9));
            does(unoffered, "o15@10", x -> x.placeOffer(15, 10));
            failing(unoffered, "o16@1", "o99@1", "o0@0", "o0@00");
        });
        shows(0, "\"x\" and a number cancels a bid, and \"y\" and a number cancels an offer.", () -> {
            does(Scenes.bids(10), "x0", x -> x.cancelBid(0));
            does(Scenes.bids(10), "x09", x -> x.cancelBid(9));
            does(Scenes.offers(16), "y0", x -> x.cancelOffer(0));
            does(Scenes.offers(16), "y15", x -> x.cancelOffer(15));
            does(manyIds(99), "x99", x -> x.cancelBid(99));
            does(manyIds(99), "y99", x -> x.cancelOffer(99));
            failing(Scenes.bids(10), "x10", "x99", "y2", "y99");
            failing(manyIds(100), "x99", "y99", "x10", "y10");
        });
    }

    /** One bid and one offer, both with this id, of which those before were cancelled. */
    private static Picture.Scene manyIds(int id) {
        return () -> {
            BarnacleExchange x = Scenes.bids(0).make();
            x.cancelOffer(1);
            x.cancelOffer(0);
            for (int i = 0; i <= id; i++) {
                x.placeBid(0, 9, 1);
                // Scenes.bids has given the ids 0 and 1 of offers.
                if (i > 1) {
                    x.placeOffer(0, 50);
                }
                if (i > 1 && i < id) {
                    x.cancelOffer(i);
                }
                if (i < id) {
                    x.cancelBid(i);
                }
            }
            return x;
        };
    }

    private static void numbers() {
        shows(0, "A number has one or two digits.", () -> {
            String[] heads = {"s", "c0+", "b01@", "o", "o0@", "x", "y"};
            String[] tails = {"/1", "", "", "@1", "", "", ""};
            for (int i = 0; i < heads.length; i++) {
                String head = heads[i];
                int start = head.length();
                errs(head + tails[i], start);
                errs(head + "-1" + tails[i], start);
                errs(head + "123" + tails[i], start + 2);
                errs(head + "000" + tails[i], start + 2);
                for (String number : new String[] {"0", "1", "9", "00", "09", "10", "90", "99"}) {
                    reads(head + number + tails[i]);
                }
                // The signs next to the digits.
                errs(head + "/" + tails[i], start);
                errs(head + ":" + tails[i], start);
                errs(head + "1:" + tails[i], start + 1);
                errs(head + "12:" + tails[i], start + 2);
            }
        });
    }

    /** The input has no syntax error, whatever its commands do. */
    private static void reads(String input) {
        BarnacleExchange x = new BarnacleExchange();
        Check.answerOf(() -> Check.run(x, input));
        fails("\"" + input + "\" is right", NONE, x::syntaxErrorOffset);
    }

    private static void offsets() {
        shows(0, "The offset of a syntax error is the index of the first character that cannot follow the characters"
                + " ahead of it in any input; it is the length of the input if the input ends too early.", () -> {
            for (String form : FORMS) {
                StringBuilder begun = new StringBuilder();
                for (int at = 0; at < form.length(); at++) {
                    afterStart(begun.toString(), allowed(form, at));
                    begun.append(form.charAt(at) == 'n' ? "4" : form.charAt(at) == 'd' ? "2" : "" + form.charAt(at));
                }
                afterStart(begun.toString(), form.endsWith("n") ? "0123456789;" : ";");
            }
            afterStart("s12", "/");
            afterStart("o12", "@");
            afterStart("o12@12", ";");
            afterStart("c2+12", ";");
            errs("?" + "t".repeat(59), 0);
            errs("t;".repeat(29) + "tt", 59);
            errs("t;".repeat(29) + "t ", 59);
            errs("t;".repeat(28) + "b1;t", 58);
        });
        shows(0, "The offset of a syntax error is the index of the first character that cannot follow the characters"
                + " ahead of it in any input; it is the length of the input if the input ends too early.", () -> {
            // Inputs of 60 characters that end too early, and one of 59.
            errs("t;".repeat(30), 60);
            errs("t;".repeat(29) + "x", 59);
            errs("t;".repeat(28) + "b12@", 60);
            errs("t;".repeat(28) + "c1+x", 59);
            errs("s1/1;".repeat(12), 60);
            errs("f1;".repeat(19) + "t;s", 60);
            errs("f1;".repeat(18) + "t;o12@", 60);
            errs("f1;".repeat(19) + "s12", 60);
            errs("f1;".repeat(19) + "o12", 60);
            errs("f1;".repeat(19) + "b12", 60);
            errs("t;".repeat(29) + "c1", 60);
            errs("t;".repeat(29) + "a1", 60);
            errs("f1;".repeat(19) + "c1+", 60);
            errs("t;s9/1;".repeat(8) + "t;t;", 60);
            // What an earlier input had further on must not complete a later one.
            String[][] starts = {{"s12/3", "s", "s1", "s12", "s12/"}, {"a12", "a", "a1"}, {"c1+2", "c", "c1", "c1+"},
                {"b12@3", "b", "b1", "b12", "b12@"}, {"o12@3", "o", "o1", "o12", "o12@"}, {"x1", "x"}, {"y1", "y"},
                {"f1", "f", ""}, {"t;t", "t;", ""}};
            for (String[] row : starts) {
                for (int i = 1; i < row.length; i++) {
                    BarnacleExchange x = new BarnacleExchange();
                    String input = row[i];
                    Check.answerOf(() -> Check.run(x, row[0]));
                    fails("\"" + input + "\" after a longer one", ILLEGAL, () -> Check.run(x, input));
                    is("\"" + input + "\" after a longer one, the offset", input.length(), x::syntaxErrorOffset);
                }
            }
        });
    }

    /** The signs that may stand at a place of a form, when the place ahead has one sign. */
    private static String allowed(String form, int at) {
        if (at == 0) {
            return "sacboxytf";
        }
        boolean isDigit = form.charAt(at) == 'n' || form.charAt(at) == 'd';
        boolean isAfterNumber = form.charAt(at - 1) == 'n';
        return (isDigit || isAfterNumber ? "0123456789" : "") + (isDigit ? "" : form.charAt(at));
    }

    /** Every sign that is not allowed is the error, as the last one and ahead of others; without one the end is. */
    private static void afterStart(String begun, String allowed) {
        for (char sign = 32; sign < 127; sign++) {
            if (allowed.indexOf(sign) < 0) {
                errs(begun + sign, begun.length());
                errs("f0;" + begun + sign + ";t", begun.length() + 3);
            } else {
                BarnacleExchange x = new BarnacleExchange();
                String input = begun + sign + "~";
                fails("\"" + input + "\"", ILLEGAL, () -> Check.run(x, input));
                is("\"" + input + "\", the offset", input.length() - 1, x::syntaxErrorOffset);
            }
        }
        if (allowed.indexOf(';') < 0) {
            errs(begun, begun.length());
            errs("f0;" + begun, begun.length() + 3);
        }
    }

    private static void appendInput() {
        shows(55, "Appends a character to the input.", () -> {
            changes("a character", Scenes.BUSY, x -> x.appendInput('~'), "input");
            changes("the first character", Scenes.EMPTY, x -> x.appendInput(' '), "input");
            BarnacleExchange x = new BarnacleExchange();
            x.appendInput('f');
            x.appendInput('7');
            is("in their order", 1, x::execute);
            is("both of them", 7, x::fee);
        });
        shows(55, "`character`: the character, with a code from 32 to 126", () -> {
            for (int code = 32; code <= 126; code++) {
                char character = (char) code;
                is("code " + code, 1, () -> new BarnacleExchange().appendInput(character));
            }
            refused("code 31", ILLEGAL, Scenes.BUSY, x -> x.appendInput((char) 31));
            refused("code 127", ILLEGAL, Scenes.BUSY, x -> x.appendInput((char) 127));
        });
        shows(55, "Returns the length of the input after the call.", () -> {
            BarnacleExchange x = new BarnacleExchange();
            for (int length = 1; length <= 60; length++) {
                is("" + length, length, () -> x.appendInput('t'));
            }
            is("after a wrong code", 5, after(Scenes.BUSY, y -> y.appendInput('\n')), y -> y.appendInput('t'));
            is("after commands", 1, after(Scenes.BUSY, BarnacleExchange::execute), y -> y.appendInput('t'));
        });
        shows(55, "Throws `IllegalArgumentException` if the code is out of range", () -> {
            for (int code : new int[] {0, 9, 10, 13, 31, 127, 128, 160, 255, 256 + 't', 65535}) {
                refused("code " + code, ILLEGAL, Scenes.BUSY, x -> x.appendInput((char) code));
                refused("code " + code + " to a full input", ILLEGAL, Scenes.FULL, x -> x.appendInput((char) code));
            }
        });
        shows(55, "Throws `IllegalStateException` if the input has 60 characters", () -> {
            refused("60 characters", STATE, Scenes.FULL, x -> x.appendInput('t'));
            BarnacleExchange x = new BarnacleExchange();
            Check.type(x, "t;".repeat(29) + "f");
            is("59 characters", 60, () -> x.appendInput('9'));
            fails("60 characters", STATE, () -> x.appendInput(';'));
            fails("60 characters again", STATE, () -> x.appendInput('0'));
            is("the 60 are as they were", 30, x::execute);
            is("the last of them", 9, x::fee);
        });
    }

    private static void execute() {
        shows(56, "Executes the commands of the input, all of them or none.", () -> {
            changes("all", Scenes.BUSY, BarnacleExchange::execute, "data", "changes", "input");
            String all = "c2+5;b22@9;o2@25;f7;t;s3/1;a01;x1;y1";
            Act direct = x -> x.giveCoins(2, 5) + x.placeBid(2, 2, 9) + x.placeOffer(2, 25) + x.setFee(7) + x.passTide()
                    + x.addShip(3, 1) + x.addBarnacle(0, 1) + x.cancelBid(1) + x.cancelOffer(1);
            is("the same as by calls", Picture.data(() -> after(EMPTIED, direct)),
                    () -> Picture.data(() -> after(EMPTIED, x -> Check.run(x, all))));
            changes("none, for the last one has no ship", EMPTIED, x -> Check.run(x, all + ";a91"));
            changes("none, for the last one is rejected", EMPTIED, x -> Check.run(x, all + ";b22@99"), "rejection");
            changes("none, for the last one is no command", EMPTIED, x -> Check.run(x, all + ";z"), "syntax error");
        });
        shows(56, "The input is empty after the call, also if an exception is thrown.", () -> {
            for (String input : new String[] {"f1;f2", "f1;z", "", "f1;a91", "f1;b21@1", "t;".repeat(30)}) {
                BarnacleExchange x = Scenes.bids(10).make();
                Check.answerOf(() -> Check.run(x, input));
                is("one character after \"" + input + "\"", 1, () -> x.appendInput('f'));
                is("another", 2, () -> x.appendInput('8'));
                is("these alone are executed", 1, x::execute);
                is("the fee", 8, x::fee);
            }
            fails("twice", ILLEGAL, () -> after(Scenes.BUSY, BarnacleExchange::execute).execute());
        });
        shows(56, "Returns the number of commands.", () -> {
            for (int commands = 1; commands <= 30; commands++) {
                String input = "t;".repeat(commands - 1) + "t";
                is("" + commands, commands, () -> Check.run(new BarnacleExchange(), input));
            }
            is("of other forms", 8, () -> Check.run(new BarnacleExchange(), "s9/2;a01;o0@1;c0+1;b01@1;x0;y0;f0"));
        });
    }

    private static void failures() {
        shows(56, "Throws `IllegalArgumentException` if the input has a syntax error; syntaxErrorOffset returns its"
                + " offset", () -> {
            refused("a wrong character", ILLEGAL, EMPTIED, x -> Check.run(x, "t;t;!"), "syntax error");
            refused("no input", ILLEGAL, Scenes.EMPTY, BarnacleExchange::execute, "syntax error");
            refused("no input in a busy exchange", ILLEGAL, EMPTIED, BarnacleExchange::execute, "syntax error");
            refused("input that ends too early", ILLEGAL, Scenes.BUSY, x -> Check.run(x, ";"), "input", "syntax error");
            is("its offset", 5, () -> after(Scenes.BUSY, x -> Check.run(x, ";")).syntaxErrorOffset());
            is("the offset of no input", 0, () -> after(Scenes.EMPTY, BarnacleExchange::execute).syntaxErrorOffset());
        });
        shows(56, "Throws `IllegalStateException` if the first command that fails does so for another reason than a"
                + " rejection: its method throws another exception than UnsupportedOperationException", () -> {
            String[] inputs = {"s1/0", "s1/6", "a61", "a10", "c6+1", "c0+0", "b61@1", "b01@0", "b00@1", "o2@5", "o0@0",
                "x10", "y2"};
            for (String input : inputs) {
                fails(input, STATE, () -> Check.run(Scenes.bids(10).make(), input));
                fails("t;" + input, STATE, () -> Check.run(Scenes.bids(10).make(), "t;" + input));
                fails(input + ", then a rejection", STATE, () -> Check.run(Scenes.bids(10).make(), input + ";b21@1"));
                changes(input + " after others", Scenes.bids(10), x -> Check.run(x, "s1/1;t;f9;" + input));
            }
            refused("a bid that the tide closes", STATE, Scenes.BUSY, x -> Check.run(x, ";x2"), "input");
            is("the bid that the tide leaves", 3, () -> Check.run(Scenes.BUSY.make(), ";x1"));
        });
        shows(56, "Throws `UnsupportedOperationException` if the call is rejected with the reason COMMAND_REJECTED", () -> {
            refused("a rejection", REJECTED, Scenes.BUSY, x -> Check.run(x, ";a21;a21"), "input", "rejection");
            rejects("the third command", Scenes.BUSY, BarnacleExchange.COMMAND_REJECTED, 3,
                    x -> Check.run(x, ";a21;a21"));
            rejects("a failure comes later", Scenes.bids(10), BarnacleExchange.COMMAND_REJECTED, 0,
                    x -> Check.run(x, "b21@1;a91"));
            is("after a tide there is room", 2, () -> Check.run(Scenes.bids(10).make(), "t;b21@1"));
        });
    }

    private static void syntaxErrorOffset() {
        shows(57, "Returns the offset of the latest syntax error.", () -> {
            BarnacleExchange x = new BarnacleExchange();
            Check.answerOf(() -> Check.run(x, "t;t;!"));
            is("the first", 4, x::syntaxErrorOffset);
            is("right commands", 1, () -> Check.run(x, "t"));
            is("it is kept", 4, x::syntaxErrorOffset);
            fails("a failure of another kind", STATE, () -> Check.run(x, "x0"));
            is("it is kept then", 4, x::syntaxErrorOffset);
            Check.run(x, "s0/1");
            fails("a rejection", REJECTED, () -> Check.run(x, "b01@1"));
            is("it is kept then too", 4, x::syntaxErrorOffset);
            fails("wrong characters", ILLEGAL, () -> x.appendInput((char) 127));
            is("they count nothing", 4, x::syntaxErrorOffset);
            Check.answerOf(() -> Check.run(x, "!"));
            is("the latest", 0, x::syntaxErrorOffset);
        });
        shows(57, "Returns the offset.", () -> {
            for (int offset = 0; offset <= 58; offset += 2) {
                int due = offset;
                is("" + offset, due, () -> after(Scenes.EMPTY, x -> Check.run(x, "t;".repeat(due / 2) + "!"))
                        .syntaxErrorOffset());
            }
            is("60", 60, () -> after(Scenes.EMPTY, x -> Check.run(x, "t;".repeat(30))).syntaxErrorOffset());
        });
        shows(57, "Throws `NoSuchElementException` if there was no syntax error", () -> {
            refused("no input", NONE, Scenes.EMPTY, BarnacleExchange::syntaxErrorOffset);
            for (String input : new String[] {"t", "x0", "s1/1;b01@2"}) {
                fails("after \"" + input + "\"", NONE,
                        () -> after(Scenes.EMPTY, x -> Check.run(x, input)).syntaxErrorOffset());
            }
            fails("before the execution", NONE, () -> after(Scenes.EMPTY, x -> x.appendInput('!')).syntaxErrorOffset());
        });
    }
}
