import java.util.NoSuchElementException;

/**
 * An exchange on which ships trade barnacles. What each method promises is said in ../shared/DOC.md.
 *
 * <p>Every change, whether it is called or comes as a command, is a verb with up to three numbers: the market first
 * judges it and then carries it out, so that a command can be refused without an exception.
 */
public final class BarnacleExchange {
    public static final int SHIP_LIMIT = 1;
    public static final int BARNACLE_LIMIT = 2;
    public static final int NO_PLACE = 3;
    public static final int BID_LIMIT = 4;
    public static final int TOO_POOR = 5;
    public static final int OFFERED = 6;
    public static final int COMMAND_REJECTED = 7;

    // The verdicts on a change that are not one of the reasons above.
    private static final int FINE = 0;
    private static final int NO_SUCH_INDEX = -1;
    private static final int BAD_ARGUMENT = -2;
    private static final int NO_SUCH_ORDER = -3;

    private static final int NONE = -1;

    private final Market market = new Market();
    private final Market spare = new Market();
    private final Market snapshot = new Market();
    private boolean hasSnapshot = false;
    private final History history = new History();
    private final Script script = new Script();
    private final StringBuilder output = new StringBuilder();
    private int latestReason = NONE;
    private int latestDetail = NONE;
    private int latestCause = NONE;
    private int latestSyntaxError = NONE;

    public BarnacleExchange() {
    }

    // ---- ships and barnacles

    public int addShip(int coins, int capacity) throws IllegalArgumentException, UnsupportedOperationException {
        return change(Script.ADD_SHIP, coins, capacity, 0);
    }

    public int addBarnacle(int ship, int grade)
            throws IndexOutOfBoundsException, IllegalArgumentException, UnsupportedOperationException {
        return change(Script.ADD_BARNACLE, ship, grade, 0);
    }

    public int giveCoins(int ship, int coins) throws IndexOutOfBoundsException, IllegalArgumentException {
        return change(Script.GIVE_COINS, ship, coins, 0);
    }

    public int shipCount() {
        return market.fleet.ships;
    }

    public int coinsOf(int ship) throws IndexOutOfBoundsException {
        requireShip(ship);
        return market.fleet.coins[ship];
    }

    public int reservedCoins(int ship) throws IndexOutOfBoundsException {
        requireShip(ship);
        return market.bids.priceSumOf(ship);
    }

    public int capacityOf(int ship) throws IndexOutOfBoundsException {
        requireShip(ship);
        return market.fleet.capacities[ship];
    }

    public int loadOf(int ship) throws IndexOutOfBoundsException {
        requireShip(ship);
        return market.fleet.loadOn(ship);
    }

    public int freePlaces(int ship) throws IndexOutOfBoundsException {
        requireShip(ship);
        return market.placesLeft(ship);
    }

    public int barnacleAt(int ship, int position) throws IndexOutOfBoundsException, NoSuchElementException {
        requireShip(ship);
        int barnacle = market.fleet.barnacleInOrder(ship, position);
        if (barnacle == NONE) {
            throw new NoSuchElementException("the ship has no barnacle at this position");
        }
        return barnacle;
    }

    public int barnacleCount() {
        return market.fleet.barnacles;
    }

    public int shipOf(int barnacle) throws IndexOutOfBoundsException {
        requireBarnacle(barnacle);
        return market.fleet.homes[barnacle];
    }

    public int gradeOf(int barnacle) throws IndexOutOfBoundsException {
        requireBarnacle(barnacle);
        return market.fleet.grades[barnacle];
    }

    public boolean isOffered(int barnacle) throws IndexOutOfBoundsException {
        requireBarnacle(barnacle);
        return market.offers.firstRowOf(barnacle) != NONE;
    }

    // ---- bids and offers

    public int placeBid(int ship, int grade, int price)
            throws IndexOutOfBoundsException, IllegalArgumentException, UnsupportedOperationException {
        return change(Script.PLACE_BID, ship, grade, price);
    }

    public int placeOffer(int barnacle, int price)
            throws IndexOutOfBoundsException, IllegalArgumentException, UnsupportedOperationException {
        return change(Script.PLACE_OFFER, barnacle, price, 0);
    }

    public int cancelBid(int bid) throws NoSuchElementException {
        return change(Script.CANCEL_BID, bid, 0, 0);
    }

    public int cancelOffer(int offer) throws NoSuchElementException {
        return change(Script.CANCEL_OFFER, offer, 0, 0);
    }

    public int bidCount() {
        return market.bids.size;
    }

    public int offerCount() {
        return market.offers.size;
    }

    public int bidAt(int position) throws NoSuchElementException {
        return idAt(market.bids, position);
    }

    public int offerAt(int position) throws NoSuchElementException {
        return idAt(market.offers, position);
    }

    public int shipOfBid(int bid) throws NoSuchElementException {
        return market.bids.owners[openRow(market.bids, bid)];
    }

    public int gradeOfBid(int bid) throws NoSuchElementException {
        return market.bids.grades[openRow(market.bids, bid)];
    }

    public int priceOfBid(int bid) throws NoSuchElementException {
        return market.bids.prices[openRow(market.bids, bid)];
    }

    public int ageOfBid(int bid) throws NoSuchElementException {
        return market.bids.ages[openRow(market.bids, bid)];
    }

    public int barnacleOfOffer(int offer) throws NoSuchElementException {
        return market.offers.owners[openRow(market.offers, offer)];
    }

    public int priceOfOffer(int offer) throws NoSuchElementException {
        return market.offers.prices[openRow(market.offers, offer)];
    }

    public int ageOfOffer(int offer) throws NoSuchElementException {
        return market.offers.ages[openRow(market.offers, offer)];
    }

    public int matchFor(int bid) throws NoSuchElementException {
        return matchedOffer(market.matchInOrder(openRow(market.bids, bid)));
    }

    public int matchByBarnacles(int bid) throws NoSuchElementException {
        return matchedOffer(market.matchAmongBarnacles(openRow(market.bids, bid)));
    }

    public int spread() throws NoSuchElementException {
        if (market.bids.size == 0 || market.offers.size == 0) {
            throw new NoSuchElementException("there are no open bids, or no open offers");
        }
        return market.bids.prices[0] - market.offers.prices[0];
    }

    // ---- tides

    public int passTide() {
        return change(Script.PASS_TIDE, 0, 0, 0);
    }

    public int wouldTrade() {
        spare.copyFrom(market);
        return spare.letTidePass();
    }

    public int setFee(int fee) throws IllegalArgumentException {
        return change(Script.SET_FEE, fee, 0, 0);
    }

    public int fee() {
        return market.charge;
    }

    public int tideCount() {
        return market.tides;
    }

    public int buyerOf(int recency) throws NoSuchElementException {
        requireTrade(recency);
        return market.trades.buyers[recency];
    }

    public int sellerOf(int recency) throws NoSuchElementException {
        requireTrade(recency);
        return market.trades.sellers[recency];
    }

    public int barnacleOf(int recency) throws NoSuchElementException {
        requireTrade(recency);
        return market.trades.goods[recency];
    }

    public int priceOf(int recency) throws NoSuchElementException {
        requireTrade(recency);
        return market.trades.prices[recency];
    }

    // ---- totals and orders

    public int tradeCount() {
        return market.trades.count;
    }

    public int turnover() {
        return market.trades.priceSum;
    }

    public int exchangeCoins() {
        return market.feesTaken;
    }

    public int expiredCount() {
        return market.expired;
    }

    public int allCoins() {
        return market.coinSum();
    }

    public int allCoinsGiven() {
        return market.coinsGiven;
    }

    public int shipByWealth(int position) throws NoSuchElementException {
        int ship = market.fleet.shipInOrder(position);
        if (ship == NONE) {
            throw new NoSuchElementException("there is no ship at this position");
        }
        return ship;
    }

    public double meanPrice() throws ArithmeticException {
        int count = market.trades.count;
        if (count == 0) {
            throw new ArithmeticException("there were no trades");
        }
        return (double) market.trades.priceSum / (double) count;
    }

    public float offeredShare() throws ArithmeticException {
        int count = market.fleet.barnacles;
        if (count == 0) {
            throw new ArithmeticException("there are no barnacles");
        }
        return (float) market.offers.size / (float) count;
    }

    public boolean isConsistent() {
        return market.coinSum() == market.coinsGiven && market.matchesAgree() && market.shipsKeepReserves();
    }

    // ---- text output

    public int writeShip(int ship) throws IndexOutOfBoundsException {
        requireShip(ship);
        Fleet fleet = market.fleet;
        int load = fleet.loadOn(ship);
        output.setLength(0);
        output.append(ship).append('$').append(fleet.coins[ship]);
        output.append('(').append(load).append('/').append(fleet.capacities[ship]).append(')');
        for (int position = 0; position < load; position++) {
            writeBarnacle(fleet.barnacleInOrder(ship, position));
        }
        return output.length();
    }

    public char outputAt(int index) throws IndexOutOfBoundsException {
        if (index < 0 || index >= output.length()) {
            throw new IndexOutOfBoundsException("the output has no character at this index");
        }
        return output.charAt(index);
    }

    // ---- commands

    public int appendInput(char character) throws IllegalArgumentException, IllegalStateException {
        if (!isWithin(character, 32, 126)) {
            throw new IllegalArgumentException("the code of the character is out of range");
        }
        if (script.length >= Script.MOST_CHARACTERS) {
            throw new IllegalStateException("the input is full");
        }
        script.characters[script.length] = character;
        script.length++;
        return script.length;
    }

    public int execute() throws IllegalArgumentException, IllegalStateException, UnsupportedOperationException {
        int offset = script.readCommands();
        script.length = 0;
        if (offset != NONE) {
            latestSyntaxError = offset;
            throw new IllegalArgumentException("the input has a syntax error");
        }
        spare.copyFrom(market);
        for (int number = 0; number < script.count; number++) {
            int verdict = perform(number);
            if (verdict != FINE) {
                market.copyFrom(spare);
                refuseCommand(number, verdict);
            }
        }
        history.remember(spare);
        return script.count;
    }

    public int syntaxErrorOffset() throws NoSuchElementException {
        if (latestSyntaxError == NONE) {
            throw new NoSuchElementException("there was no syntax error");
        }
        return latestSyntaxError;
    }

    // ---- rejections and history

    public int rejectionReason() throws NoSuchElementException {
        requireRejection();
        return latestReason;
    }

    public int rejectionDetail() throws NoSuchElementException {
        requireRejection();
        return latestDetail;
    }

    public int causeReason() throws NoSuchElementException {
        if (latestReason != COMMAND_REJECTED) {
            throw new NoSuchElementException("the latest rejection is not one of a command");
        }
        return latestCause;
    }

    public int undo() throws IllegalStateException {
        if (history.depth == 0) {
            throw new IllegalStateException("there is no change to undo");
        }
        history.bringBack(market);
        return history.depth;
    }

    public int saveSnapshot() {
        snapshot.copyFrom(market);
        hasSnapshot = true;
        return market.fleet.ships;
    }

    public int restoreSnapshot() throws IllegalStateException {
        if (!hasSnapshot) {
            throw new IllegalStateException("there is no snapshot");
        }
        market.copyFrom(snapshot);
        history.depth = 0;
        return market.fleet.ships;
    }

    // ---- what several of the methods above share

    private int change(char verb, int first, int second, int third) {
        refuseUnlessFine(market.judge(verb, first, second, third), first);
        history.remember(market);
        return market.carryOut(verb, first, second, third);
    }

    /** The subject is the ship or the barnacle of the change. */
    private void refuseUnlessFine(int verdict, int subject) {
        if (verdict == NO_SUCH_INDEX) {
            throw new IndexOutOfBoundsException("there is no such ship or barnacle");
        }
        if (verdict == BAD_ARGUMENT) {
            throw new IllegalArgumentException("an argument is out of range");
        }
        if (verdict == NO_SUCH_ORDER) {
            throw new NoSuchElementException("there is no open order with this id");
        }
        if (verdict != FINE) {
            noteRejection(verdict, market.detailOf(verdict, subject), NONE);
            throw new UnsupportedOperationException("the call is rejected");
        }
    }

    /** Carries out a command of the script if nothing stands against it, and returns the verdict. */
    private int perform(int number) {
        char verb = script.verbs[number];
        int first = script.numbers[number][0];
        int second = script.numbers[number][1];
        int third = script.numbers[number][2];
        int verdict = market.judge(verb, first, second, third);
        if (verdict == FINE) {
            market.carryOut(verb, first, second, third);
        }
        return verdict;
    }

    private void refuseCommand(int number, int verdict) {
        if (verdict == NO_SUCH_INDEX || verdict == BAD_ARGUMENT || verdict == NO_SUCH_ORDER) {
            throw new IllegalStateException("a command fails");
        }
        noteRejection(COMMAND_REJECTED, number, verdict);
        throw new UnsupportedOperationException("a command is rejected");
    }

    private void noteRejection(int reason, int detail, int cause) {
        latestReason = reason;
        latestDetail = detail;
        latestCause = cause;
    }

    private void requireShip(int ship) {
        if (!market.fleet.hasShip(ship)) {
            throw new IndexOutOfBoundsException("there is no such ship");
        }
    }

    private void requireBarnacle(int barnacle) {
        if (!market.fleet.hasBarnacle(barnacle)) {
            throw new IndexOutOfBoundsException("there is no such barnacle");
        }
    }

    private void requireTrade(int recency) {
        if (!market.trades.holds(recency)) {
            throw new NoSuchElementException("there is no such trade among the latest ones");
        }
    }

    private void requireRejection() {
        if (latestReason == NONE) {
            throw new NoSuchElementException("no call was rejected");
        }
    }

    private static int openRow(OrderBook book, int id) {
        int row = book.rowWithId(id);
        if (row == NONE) {
            throw new NoSuchElementException("there is no open order with this id");
        }
        return row;
    }

    private static int idAt(OrderBook book, int position) {
        if (position < 0 || position >= book.size) {
            throw new NoSuchElementException("there is no open order at this position");
        }
        return book.ids[position];
    }

    private int matchedOffer(int offerRow) {
        if (offerRow == NONE) {
            throw new NoSuchElementException("no offer fits the bid");
        }
        return market.offers.ids[offerRow];
    }

    private void writeBarnacle(int barnacle) {
        if (!market.fleet.hasBarnacle(barnacle)) {
            return;
        }
        output.append(' ').append(barnacle).append('g').append(market.fleet.grades[barnacle]);
        if (market.offers.firstRowOf(barnacle) != NONE) {
            output.append('!');
        }
    }

    private static boolean isWithin(int value, int least, int most) {
        return value >= least && value <= most;
    }

    /** All that undo and the snapshot cover. */
    private static final class Market {
        final Fleet fleet = new Fleet();
        final OrderBook bids = new BidBook();
        final OrderBook offers = new OfferBook();
        final TradeLog trades = new TradeLog();
        int charge = 1;
        int tides = 0;
        int expired = 0;
        int feesTaken = 0;
        int coinsGiven = 0;

        void copyFrom(Market other) {
            fleet.copyFrom(other.fleet);
            bids.copyFrom(other.bids);
            offers.copyFrom(other.offers);
            trades.copyFrom(other.trades);
            charge = other.charge;
            tides = other.tides;
            expired = other.expired;
            feesTaken = other.feesTaken;
            coinsGiven = other.coinsGiven;
        }

        /** Says what stands first against a change, in the order of the document, or FINE. */
        int judge(char verb, int first, int second, int third) {
            switch (verb) {
                case Script.ADD_SHIP:
                    return judgeShip(first, second);
                case Script.ADD_BARNACLE:
                    return judgeBarnacle(first, second);
                case Script.GIVE_COINS:
                    return judgeGift(first, second);
                case Script.PLACE_BID:
                    return judgeBid(first, second, third);
                case Script.PLACE_OFFER:
                    return judgeOffer(first, second);
                case Script.CANCEL_BID:
                    return bids.rowWithId(first) == NONE ? NO_SUCH_ORDER : FINE;
                case Script.CANCEL_OFFER:
                    return offers.rowWithId(first) == NONE ? NO_SUCH_ORDER : FINE;
                case Script.SET_FEE:
                    return isWithin(first, 0, 9) ? FINE : BAD_ARGUMENT;
                default:
                    return FINE;
            }
        }

        /** Makes a change that was judged FINE, and returns what its method returns. */
        int carryOut(char verb, int first, int second, int third) {
            switch (verb) {
                case Script.ADD_SHIP:
                    coinsGiven += first;
                    return fleet.launch(first, second);
                case Script.ADD_BARNACLE:
                    return fleet.board(first, second);
                case Script.GIVE_COINS:
                    coinsGiven += second;
                    fleet.coins[first] += second;
                    return fleet.coins[first];
                case Script.PLACE_BID:
                    return bids.enter(first, second, third);
                case Script.PLACE_OFFER:
                    return offers.enter(first, fleet.grades[first], second);
                case Script.CANCEL_BID:
                    bids.remove(bids.rowWithId(first));
                    return bids.size;
                case Script.CANCEL_OFFER:
                    offers.remove(offers.rowWithId(first));
                    return offers.size;
                case Script.SET_FEE:
                    return replaceCharge(first);
                default:
                    return letTidePass();
            }
        }

        int judgeShip(int coins, int capacity) {
            if (!isWithin(coins, 0, 99) || !isWithin(capacity, 1, 5)) {
                return BAD_ARGUMENT;
            }
            return fleet.ships >= Fleet.MOST_SHIPS ? SHIP_LIMIT : FINE;
        }

        int judgeBarnacle(int ship, int grade) {
            if (!fleet.hasShip(ship)) {
                return NO_SUCH_INDEX;
            }
            if (!isWithin(grade, 1, 9)) {
                return BAD_ARGUMENT;
            }
            if (fleet.barnacles >= Fleet.MOST_BARNACLES) {
                return BARNACLE_LIMIT;
            }
            return placesLeft(ship) < 1 ? NO_PLACE : FINE;
        }

        int judgeGift(int ship, int coins) {
            if (!fleet.hasShip(ship)) {
                return NO_SUCH_INDEX;
            }
            return isWithin(coins, 1, 99) ? FINE : BAD_ARGUMENT;
        }

        int judgeBid(int ship, int grade, int price) {
            if (!fleet.hasShip(ship)) {
                return NO_SUCH_INDEX;
            }
            if (!isWithin(grade, 1, 9) || !isWithin(price, 1, 99)) {
                return BAD_ARGUMENT;
            }
            if (bids.size >= BidBook.MOST_BIDS) {
                return BID_LIMIT;
            }
            if (placesLeft(ship) < 1) {
                return NO_PLACE;
            }
            return coinsLeft(ship) < price ? TOO_POOR : FINE;
        }

        int judgeOffer(int barnacle, int price) {
            if (!fleet.hasBarnacle(barnacle)) {
                return NO_SUCH_INDEX;
            }
            if (!isWithin(price, 1, 99)) {
                return BAD_ARGUMENT;
            }
            return offers.firstRowOf(barnacle) == NONE ? FINE : OFFERED;
        }

        int detailOf(int reason, int subject) {
            switch (reason) {
                case SHIP_LIMIT:
                    return Fleet.MOST_SHIPS;
                case BARNACLE_LIMIT:
                    return Fleet.MOST_BARNACLES;
                case NO_PLACE:
                    return fleet.capacities[subject];
                case BID_LIMIT:
                    return bids.ids[BidBook.MOST_BIDS - 1];
                case TOO_POOR:
                    return coinsLeft(subject);
                default:
                    return offers.idOf(subject);
            }
        }

        int placesLeft(int ship) {
            return fleet.capacities[ship] - fleet.loadOn(ship) - bids.countOf(ship);
        }

        int coinsLeft(int ship) {
            return fleet.coins[ship] - bids.priceSumOf(ship);
        }

        int coinSum() {
            return fleet.coinSum() + feesTaken;
        }

        int replaceCharge(int newCharge) {
            int previous = charge;
            charge = newCharge;
            return previous;
        }

        boolean fits(int offerRow, int bidRow) {
            int seller = fleet.homes[offers.owners[offerRow]];
            return seller != bids.owners[bidRow]
                    && offers.grades[offerRow] >= bids.grades[bidRow]
                    && offers.prices[offerRow] <= bids.prices[bidRow];
        }

        /** Returns the row of the first offer that fits, or NONE. */
        int matchInOrder(int bidRow) {
            for (int offerRow = 0; offerRow < offers.size; offerRow++) {
                if (fits(offerRow, bidRow)) {
                    return offerRow;
                }
            }
            return NONE;
        }

        /** Finds the same row without relying on the order in which the book keeps the offers. */
        int matchAmongBarnacles(int bidRow) {
            int best = NONE;
            for (int barnacle = 0; barnacle < fleet.barnacles; barnacle++) {
                int row = offers.firstRowOf(barnacle);
                if (row != NONE && fits(row, bidRow) && (best == NONE || isOfferAhead(row, best))) {
                    best = row;
                }
            }
            return best;
        }

        boolean isOfferAhead(int row, int otherRow) {
            if (offers.prices[row] != offers.prices[otherRow]) {
                return offers.prices[row] < offers.prices[otherRow];
            }
            if (offers.grades[row] != offers.grades[otherRow]) {
                return offers.grades[row] > offers.grades[otherRow];
            }
            return offers.ids[row] < offers.ids[otherRow];
        }

        boolean matchesAgree() {
            for (int bidRow = 0; bidRow < bids.size; bidRow++) {
                if (matchInOrder(bidRow) != matchAmongBarnacles(bidRow)) {
                    return false;
                }
            }
            return true;
        }

        boolean shipsKeepReserves() {
            for (int ship = 0; ship < fleet.ships; ship++) {
                if (coinsLeft(ship) < 0 || placesLeft(ship) < 0) {
                    return false;
                }
            }
            return true;
        }

        /** Returns the number of trades. */
        int letTidePass() {
            int before = trades.count;
            holdAuction();
            expired += bids.growOlder();
            expired += offers.growOlder();
            tides++;
            return trades.count - before;
        }

        void holdAuction() {
            int bidRow = 0;
            for (int left = bids.size; left > 0; left--) {
                int offerRow = matchInOrder(bidRow);
                if (offerRow == NONE) {
                    bidRow++;
                } else {
                    trade(bidRow, offerRow);
                    // The next bid moves up to this row.
                    bids.remove(bidRow);
                    offers.remove(offerRow);
                }
            }
        }

        void trade(int bidRow, int offerRow) {
            int buyer = bids.owners[bidRow];
            int barnacle = offers.owners[offerRow];
            int seller = fleet.homes[barnacle];
            int price = (bids.prices[bidRow] + offers.prices[offerRow]) / 2;
            int tax = Math.min(charge, price);
            fleet.coins[buyer] -= price;
            fleet.coins[seller] += price - tax;
            feesTaken += tax;
            fleet.homes[barnacle] = buyer;
            trades.note(buyer, seller, barnacle, price);
        }
    }

    /** The ships and the barnacles that ride on them. */
    private static final class Fleet {
        static final int MOST_SHIPS = 6;
        static final int MOST_BARNACLES = 16;

        int ships = 0;
        final int[] coins = new int[MOST_SHIPS];
        final int[] capacities = new int[MOST_SHIPS];
        int barnacles = 0;
        final int[] grades = new int[MOST_BARNACLES];
        final int[] homes = new int[MOST_BARNACLES];

        void copyFrom(Fleet other) {
            ships = other.ships;
            System.arraycopy(other.coins, 0, coins, 0, MOST_SHIPS);
            System.arraycopy(other.capacities, 0, capacities, 0, MOST_SHIPS);
            barnacles = other.barnacles;
            System.arraycopy(other.grades, 0, grades, 0, MOST_BARNACLES);
            System.arraycopy(other.homes, 0, homes, 0, MOST_BARNACLES);
        }

        boolean hasShip(int ship) {
            return ship >= 0 && ship < ships;
        }

        boolean hasBarnacle(int barnacle) {
            return barnacle >= 0 && barnacle < barnacles;
        }

        int launch(int newCoins, int capacity) {
            int ship = ships;
            coins[ship] = newCoins;
            capacities[ship] = capacity;
            ships++;
            return ship;
        }

        int board(int ship, int grade) {
            int barnacle = barnacles;
            grades[barnacle] = grade;
            homes[barnacle] = ship;
            barnacles++;
            return barnacle;
        }

        int loadOn(int ship) {
            int load = 0;
            for (int barnacle = 0; barnacle < barnacles; barnacle++) {
                if (homes[barnacle] == ship) {
                    load++;
                }
            }
            return load;
        }

        /** Returns NONE if the ship has no barnacle at this position. */
        int barnacleInOrder(int ship, int position) {
            for (int barnacle = 0; barnacle < barnacles; barnacle++) {
                if (homes[barnacle] == ship && barnaclesAhead(barnacle) == position) {
                    return barnacle;
                }
            }
            return NONE;
        }

        int barnaclesAhead(int barnacle) {
            int ahead = 0;
            for (int other = 0; other < barnacles; other++) {
                boolean isGreater = grades[other] > grades[barnacle];
                boolean isOlder = grades[other] == grades[barnacle] && other < barnacle;
                if (homes[other] == homes[barnacle] && (isGreater || isOlder)) {
                    ahead++;
                }
            }
            return ahead;
        }

        /** Returns NONE if there is no such position. */
        int shipInOrder(int position) {
            for (int ship = 0; ship < ships; ship++) {
                if (shipsAhead(ship) == position) {
                    return ship;
                }
            }
            return NONE;
        }

        int shipsAhead(int ship) {
            int ahead = 0;
            for (int other = 0; other < ships; other++) {
                if (isWealthier(other, ship)) {
                    ahead++;
                }
            }
            return ahead;
        }

        boolean isWealthier(int ship, int other) {
            int wealth = wealthOf(ship);
            int otherWealth = wealthOf(other);
            if (wealth != otherWealth) {
                return wealth > otherWealth;
            }
            int load = loadOn(ship);
            int otherLoad = loadOn(other);
            if (load != otherLoad) {
                return load > otherLoad;
            }
            return ship < other;
        }

        int wealthOf(int ship) {
            int wealth = coins[ship];
            for (int barnacle = 0; barnacle < barnacles; barnacle++) {
                if (homes[barnacle] == ship) {
                    wealth += grades[barnacle];
                }
            }
            return wealth;
        }

        int coinSum() {
            int sum = 0;
            for (int ship = 0; ship < ships; ship++) {
                sum += coins[ship];
            }
            return sum;
        }
    }

    /**
     * The open bids, or the open offers, a row for each, in the order of bids or of offers. The owner of a bid is its
     * ship, that of an offer its barnacle.
     */
    private abstract static class OrderBook {
        static final int AGE_LIMIT = 3;

        int size = 0;
        int nextId = 0;
        final int[] ids;
        final int[] owners;
        final int[] grades;
        final int[] prices;
        final int[] ages;

        OrderBook(int most) {
            ids = new int[most];
            owners = new int[most];
            grades = new int[most];
            prices = new int[most];
            ages = new int[most];
        }

        /** Tells whether a new order, whose id is the greatest, comes ahead of the one in the row. */
        abstract boolean comesAhead(int grade, int price, int row);

        void copyFrom(OrderBook other) {
            size = other.size;
            nextId = other.nextId;
            System.arraycopy(other.ids, 0, ids, 0, size);
            System.arraycopy(other.owners, 0, owners, 0, size);
            System.arraycopy(other.grades, 0, grades, 0, size);
            System.arraycopy(other.prices, 0, prices, 0, size);
            System.arraycopy(other.ages, 0, ages, 0, size);
        }

        /** Returns the id of the new order. */
        int enter(int owner, int grade, int price) {
            int row = 0;
            while (row < size && !comesAhead(grade, price, row)) {
                row++;
            }
            moveRows(row, row + 1, size - row);
            size++;
            ids[row] = nextId;
            owners[row] = owner;
            grades[row] = grade;
            prices[row] = price;
            ages[row] = 0;
            nextId++;
            return ids[row];
        }

        void remove(int row) {
            if (row < 0 || row >= size) {
                return;
            }
            size--;
            moveRows(row + 1, row, size - row);
        }

        void moveRows(int from, int to, int count) {
            System.arraycopy(ids, from, ids, to, count);
            System.arraycopy(owners, from, owners, to, count);
            System.arraycopy(grades, from, grades, to, count);
            System.arraycopy(prices, from, prices, to, count);
            System.arraycopy(ages, from, ages, to, count);
        }

        /** Returns the number of orders that expired. */
        int growOlder() {
            int expired = 0;
            // From the last row on, for a removal moves only rows that were seen.
            for (int row = size - 1; row >= 0; row--) {
                ages[row]++;
                if (ages[row] >= AGE_LIMIT) {
                    remove(row);
                    expired++;
                }
            }
            return expired;
        }

        int rowWithId(int id) {
            for (int row = 0; row < size; row++) {
                if (ids[row] == id) {
                    return row;
                }
            }
            return NONE;
        }

        int firstRowOf(int owner) {
            for (int row = 0; row < size; row++) {
                if (owners[row] == owner) {
                    return row;
                }
            }
            return NONE;
        }

        int idOf(int owner) {
            int row = firstRowOf(owner);
            return row == NONE ? NONE : ids[row];
        }

        int countOf(int owner) {
            int count = 0;
            for (int row = 0; row < size; row++) {
                if (owners[row] == owner) {
                    count++;
                }
            }
            return count;
        }

        int priceSumOf(int owner) {
            int sum = 0;
            for (int row = 0; row < size; row++) {
                if (owners[row] == owner) {
                    sum += prices[row];
                }
            }
            return sum;
        }
    }

    private static final class BidBook extends OrderBook {
        static final int MOST_BIDS = 10;

        BidBook() {
            super(MOST_BIDS);
        }

        boolean comesAhead(int grade, int price, int row) {
            return price > prices[row];
        }
    }

    private static final class OfferBook extends OrderBook {
        OfferBook() {
            // There is at most one open offer for a barnacle, so the book is never too small.
            super(Fleet.MOST_BARNACLES);
        }

        boolean comesAhead(int grade, int price, int row) {
            return price < prices[row] || price == prices[row] && grade > grades[row];
        }
    }

    /** The totals of all trades, and the latest trades, the latest one first. */
    private static final class TradeLog {
        static final int KEPT = 10;

        int count = 0;
        int priceSum = 0;
        final int[] buyers = new int[KEPT];
        final int[] sellers = new int[KEPT];
        final int[] goods = new int[KEPT];
        final int[] prices = new int[KEPT];

        void copyFrom(TradeLog other) {
            count = other.count;
            priceSum = other.priceSum;
            System.arraycopy(other.buyers, 0, buyers, 0, KEPT);
            System.arraycopy(other.sellers, 0, sellers, 0, KEPT);
            System.arraycopy(other.goods, 0, goods, 0, KEPT);
            System.arraycopy(other.prices, 0, prices, 0, KEPT);
        }

        boolean holds(int recency) {
            return recency >= 0 && recency < KEPT && recency < count;
        }

        void note(int buyer, int seller, int barnacle, int price) {
            System.arraycopy(buyers, 0, buyers, 1, KEPT - 1);
            System.arraycopy(sellers, 0, sellers, 1, KEPT - 1);
            System.arraycopy(goods, 0, goods, 1, KEPT - 1);
            System.arraycopy(prices, 0, prices, 1, KEPT - 1);
            buyers[0] = buyer;
            sellers[0] = seller;
            goods[0] = barnacle;
            prices[0] = price;
            count++;
            priceSum += price;
        }
    }

    /** What the market was ahead of each of the latest changes, in a ring of rows that are used again. */
    private static final class History {
        static final int MOST_CHANGES = 8;

        int depth = 0;
        int next = 0;
        final Market[] past = new Market[MOST_CHANGES];

        History() {
            for (int row = 0; row < MOST_CHANGES; row++) {
                past[row] = new Market();
            }
        }

        void remember(Market market) {
            past[next].copyFrom(market);
            next = (next + 1) % MOST_CHANGES;
            depth = Math.min(depth + 1, MOST_CHANGES);
        }

        void bringBack(Market market) {
            next = (next + MOST_CHANGES - 1) % MOST_CHANGES;
            depth--;
            market.copyFrom(past[next]);
        }
    }

    /** The input, and the commands that were read from it. */
    private static final class Script {
        static final int MOST_CHARACTERS = 60;
        // Two commands need a ";" between them.
        static final int MOST_COMMANDS = 30;
        static final int MOST_NUMBERS = 3;

        static final char ADD_SHIP = 's';
        static final char ADD_BARNACLE = 'a';
        static final char GIVE_COINS = 'c';
        static final char PLACE_BID = 'b';
        static final char PLACE_OFFER = 'o';
        static final char CANCEL_BID = 'x';
        static final char CANCEL_OFFER = 'y';
        static final char PASS_TIDE = 't';
        static final char SET_FEE = 'f';

        static final char NUMBER = 'N';
        static final char DIGIT = 'D';

        final char[] characters = new char[MOST_CHARACTERS];
        int length = 0;
        int at = 0;
        int count = 0;
        int filled = 0;
        final char[] verbs = new char[MOST_COMMANDS];
        final int[][] numbers = new int[MOST_COMMANDS][MOST_NUMBERS];

        /** Reads all commands, and returns the offset of the syntax error, or NONE. */
        int readCommands() {
            at = 0;
            for (count = 0; count < MOST_COMMANDS; count++) {
                if (!readCommand(count)) {
                    return at;
                }
                if (at == length) {
                    count++;
                    return NONE;
                }
                if (!readSign(';')) {
                    return at;
                }
            }
            return at;
        }

        /** Like all that read here, stops ahead of the first character that does not fit, and returns false then. */
        boolean readCommand(int number) {
            if (at >= length) {
                return false;
            }
            char verb = characters[at];
            String form = formOf(verb);
            if (form.isEmpty()) {
                return false;
            }
            at++;
            verbs[number] = verb;
            filled = 0;
            for (int i = 1; i < form.length(); i++) {
                if (!readPart(number, form.charAt(i))) {
                    return false;
                }
            }
            return true;
        }

        static String formOf(char verb) {
            switch (verb) {
                case ADD_SHIP:
                    return "sN/D";
                case ADD_BARNACLE:
                    return "aDD";
                case GIVE_COINS:
                    return "cD+N";
                case PLACE_BID:
                    return "bDD@N";
                case PLACE_OFFER:
                    return "oN@N";
                case CANCEL_BID:
                    return "xN";
                case CANCEL_OFFER:
                    return "yN";
                case PASS_TIDE:
                    return "t";
                case SET_FEE:
                    return "fD";
                default:
                    return "";
            }
        }

        boolean readPart(int number, char part) {
            if (part != NUMBER && part != DIGIT) {
                return readSign(part);
            }
            if (!isAtDigit()) {
                return false;
            }
            int value = takeDigit();
            if (part == NUMBER && isAtDigit()) {
                value = value * 10 + takeDigit();
            }
            numbers[number][filled] = value;
            filled++;
            return true;
        }

        boolean readSign(char sign) {
            if (at >= length || characters[at] != sign) {
                return false;
            }
            at++;
            return true;
        }

        boolean isAtDigit() {
            return at < length && characters[at] >= '0' && characters[at] <= '9';
        }

        int takeDigit() {
            int digit = characters[at] - '0';
            at++;
            return digit;
        }
    }
}
