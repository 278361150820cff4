/** Promises 53 and 54: text output. */
public final class OutputTest {
    private static final Class<IndexOutOfBoundsException> OUT = IndexOutOfBoundsException.class;

    private OutputTest() {
    }

    public static void main(String[] args) {
        exampleOfTheDocument();
        otherShips();
        outputIsKept();
        Check.end("OutputTest", 53, 54);
    }

    private static void exampleOfTheDocument() {
        BarnacleExchange x = new BarnacleExchange();
        Check.fails(53, "no ships", OUT, () -> x.writeShip(0));
        Check.fails(54, "empty at first", OUT, () -> x.outputAt(0));
        x.addShip(25, 3);
        x.addShip(0, 3);
        x.addBarnacle(1, 1);
        x.addBarnacle(0, 3);
        x.addBarnacle(1, 1);
        x.addBarnacle(1, 1);
        x.addBarnacle(0, 9);
        x.placeOffer(4, 50);
        writes(x, 0, "0$25(2/3) 4g9! 1g3");
        Check.is(54, "the first", '0', () -> x.outputAt(0));
        Check.is(54, "the last", '3', () -> x.outputAt(17));
        Check.fails(54, "behind the last", OUT, () -> x.outputAt(18));
        Check.fails(54, "ahead of the first", OUT, () -> x.outputAt(-1));
        Check.fails(54, "far out", OUT, () -> x.outputAt(Integer.MAX_VALUE));
        Check.fails(53, "ship 2", OUT, () -> x.writeShip(2));
        Check.fails(53, "ship -1", OUT, () -> x.writeShip(-1));
        Check.is(53, "a wrong ship writes nothing", "0$25(2/3) 4g9! 1g3", () -> Check.output(x, 18));
        Check.fails(53, "a wrong ship writes nothing", OUT, () -> x.outputAt(18));
    }

    private static void writes(BarnacleExchange x, int ship, String text) {
        Check.is(53, text, text.length(), () -> x.writeShip(ship));
        Check.is(53, text, text, () -> Check.output(x, text.length()));
        Check.fails(54, text, OUT, () -> x.outputAt(text.length()));
    }

    private static void otherShips() {
        BarnacleExchange x = new BarnacleExchange();
        x.addShip(0, 1);
        x.addShip(99, 5);
        x.addShip(9, 5);
        x.giveCoins(1, 1);
        for (int i = 0; i < 6; i++) {
            x.addBarnacle(2 - i / 5, 2);
        }
        for (int i = 0; i < 4; i++) {
            x.addBarnacle(1, 2);
        }
        x.addBarnacle(0, 8);
        x.placeOffer(6, 9);
        x.placeOffer(10, 9);
        writes(x, 1, "1$100(5/5) 5g2 6g2! 7g2 8g2 9g2");
        writes(x, 0, "0$0(1/1) 10g8!");
        writes(x, 2, "2$9(5/5) 0g2 1g2 2g2 3g2 4g2");
    }

    private static void outputIsKept() {
        BarnacleExchange x = new BarnacleExchange();
        x.addShip(5, 2);
        writes(x, 0, "0$5(0/2)");
        x.saveSnapshot();
        x.giveCoins(0, 5);
        x.undo();
        x.undo();
        Check.is(54, "undo leaves it", "0$5(0/2)", () -> Check.output(x, 8));
        x.restoreSnapshot();
        x.giveCoins(0, 50);
        writes(x, 0, "0$55(0/2)");
        x.restoreSnapshot();
        Check.is(54, "the snapshot leaves it", "0$55(0/2)", () -> Check.output(x, 9));
        writes(x, 0, "0$5(0/2)");
    }
}
