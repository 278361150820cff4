import java.util.ArrayDeque;
import java.util.ArrayList;
import java.util.Comparator;
import java.util.Deque;
import java.util.List;
import java.util.NoSuchElementException;
import java.util.Optional;
import java.util.regex.Matcher;
import java.util.regex.Pattern;
import java.util.stream.Collectors;
import java.util.stream.IntStream;

/**
 * The document once more, built in another way than the program: unsorted lists that are sorted when they are asked
 * for, copies of all data, and a regular expression for the commands. The random runs compare both.
 */
final class ReferenceExchange {
    private record Ship(int coins, int capacity) {
    }

    private record Barnacle(int grade, int ship) {
    }

    private record Bid(int id, int ship, int grade, int price, int age) {
    }

    private record Offer(int id, int barnacle, int price, int age) {
    }

    private record Trade(int buyer, int seller, int barnacle, int price, int paidFee) {
    }

    private static final class Data {
        final List<Ship> ships;
        final List<Barnacle> barnacles;
        final List<Bid> bids;
        final List<Offer> offers;
        final List<Trade> trades;
        int nextBid = 0;
        int nextOffer = 0;
        int fee = 1;
        int tides = 0;
        int expired = 0;
        int given = 0;

        Data() {
            ships = new ArrayList<>();
            barnacles = new ArrayList<>();
            bids = new ArrayList<>();
            offers = new ArrayList<>();
            trades = new ArrayList<>();
        }

        Data(Data other) {
            ships = new ArrayList<>(other.ships);
            barnacles = new ArrayList<>(other.barnacles);
            bids = new ArrayList<>(other.bids);
            offers = new ArrayList<>(other.offers);
            trades = new ArrayList<>(other.trades);
            nextBid = other.nextBid;
            nextOffer = other.nextOffer;
            fee = other.fee;
            tides = other.tides;
            expired = other.expired;
            given = other.given;
        }
    }

    /** A rejection, which the outermost call notes. */
    private static final class Rejected extends RuntimeException {
        private static final long serialVersionUID = 1L;
        final int reason;
        final int detail;

        Rejected(int reason, int detail) {
            this.reason = reason;
            this.detail = detail;
        }
    }

    private interface Change {
        int apply();
    }

    private static final Pattern COMMAND = Pattern.compile(
            "s[0-9]{1,2}/[0-9]|a[0-9]{2}|c[0-9]\\+[0-9]{1,2}|b[0-9]{2}@[0-9]{1,2}|o[0-9]{1,2}@[0-9]{1,2}"
            + "|[xy][0-9]{1,2}|t|f[0-9]");
    private static final Pattern INPUT = Pattern.compile("(?:" + COMMAND + ")(?:;(?:" + COMMAND + "))*");

    private Data data = new Data();
    private Data saved = null;
    private final Deque<Data> past = new ArrayDeque<>();
    private String input = "";
    private String output = "";
    private Integer syntaxError = null;
    private int[] rejection = null;

    private int change(Change change) {
        Data before = new Data(data);
        int answer;
        try {
            answer = change.apply();
        } catch (Rejected r) {
            data = before;
            rejection = new int[] {r.reason, r.detail, 0};
            throw new UnsupportedOperationException();
        }
        remember(before);
        return answer;
    }

    private void remember(Data before) {
        past.push(before);
        if (past.size() > 8) {
            past.removeLast();
        }
    }

    private Ship ship(int ship) {
        if (ship < 0 || ship >= data.ships.size()) {
            throw new IndexOutOfBoundsException();
        }
        return data.ships.get(ship);
    }

    private Barnacle barnacle(int barnacle) {
        if (barnacle < 0 || barnacle >= data.barnacles.size()) {
            throw new IndexOutOfBoundsException();
        }
        return data.barnacles.get(barnacle);
    }

    private static void range(int value, int least, int most) {
        if (value < least || value > most) {
            throw new IllegalArgumentException();
        }
    }

    private static <T> T at(List<T> list, int position) {
        if (position < 0 || position >= list.size()) {
            throw new NoSuchElementException();
        }
        return list.get(position);
    }

    private List<Bid> bidsInOrder() {
        return data.bids.stream()
                .sorted(Comparator.comparing((Bid b) -> -b.price).thenComparing(Bid::id)).collect(Collectors.toList());
    }

    private List<Offer> offersInOrder() {
        return data.offers.stream()
                .sorted(Comparator.comparing(Offer::price)
                        .thenComparing(o -> -data.barnacles.get(o.barnacle).grade).thenComparing(Offer::id))
                .collect(Collectors.toList());
    }

    private Bid bid(int id) {
        return data.bids.stream().filter(b -> b.id == id).findFirst().orElseThrow();
    }

    private Offer offer(int id) {
        return data.offers.stream().filter(o -> o.id == id).findFirst().orElseThrow();
    }

    private Optional<Offer> fitting(Bid bid) {
        return offersInOrder().stream().filter(o -> {
            Barnacle b = data.barnacles.get(o.barnacle);
            return b.ship != bid.ship && b.grade >= bid.grade && o.price <= bid.price;
        }).findFirst();
    }

    private List<Integer> barnaclesOn(int ship) {
        return IntStream.range(0, data.barnacles.size()).boxed().filter(b -> data.barnacles.get(b).ship == ship)
                .sorted(Comparator.comparing((Integer b) -> -data.barnacles.get(b).grade).thenComparing(b -> b))
                .collect(Collectors.toList());
    }

    private int wealth(int ship) {
        return data.ships.get(ship).coins + barnaclesOn(ship).stream().mapToInt(b -> data.barnacles.get(b).grade).sum();
    }

    public int addShip(int coins, int capacity) {
        return change(() -> doAddShip(coins, capacity));
    }

    private int doAddShip(int coins, int capacity) {
        range(coins, 0, 99);
        range(capacity, 1, 5);
        if (data.ships.size() == 6) {
            throw new Rejected(1, 6);
        }
        data.ships.add(new Ship(coins, capacity));
        data.given += coins;
        return data.ships.size() - 1;
    }

    public int addBarnacle(int ship, int grade) {
        return change(() -> doAddBarnacle(ship, grade));
    }

    private int doAddBarnacle(int ship, int grade) {
        ship(ship);
        range(grade, 1, 9);
        if (data.barnacles.size() == 16) {
            throw new Rejected(2, 16);
        }
        if (freePlaces(ship) == 0) {
            throw new Rejected(3, capacityOf(ship));
        }
        data.barnacles.add(new Barnacle(grade, ship));
        return data.barnacles.size() - 1;
    }

    public int giveCoins(int ship, int coins) {
        return change(() -> doGiveCoins(ship, coins));
    }

    private int doGiveCoins(int ship, int coins) {
        ship(ship);
        range(coins, 1, 99);
        pay(ship, coins);
        data.given += coins;
        return coinsOf(ship);
    }

    private void pay(int ship, int coins) {
        Ship old = data.ships.get(ship);
        data.ships.set(ship, new Ship(old.coins + coins, old.capacity));
    }

    public int shipCount() {
        return data.ships.size();
    }

    public int coinsOf(int ship) {
        return ship(ship).coins;
    }

    public int reservedCoins(int ship) {
        ship(ship);
        return data.bids.stream().filter(b -> b.ship == ship).mapToInt(Bid::price).sum();
    }

    public int capacityOf(int ship) {
        return ship(ship).capacity;
    }

    public int loadOf(int ship) {
        ship(ship);
        return barnaclesOn(ship).size();
    }

    public int freePlaces(int ship) {
        return ship(ship).capacity - loadOf(ship) - (int) data.bids.stream().filter(b -> b.ship == ship).count();
    }

    public int barnacleAt(int ship, int position) {
        ship(ship);
        return at(barnaclesOn(ship), position);
    }

    public int barnacleCount() {
        return data.barnacles.size();
    }

    public int shipOf(int barnacle) {
        return barnacle(barnacle).ship;
    }

    public int gradeOf(int barnacle) {
        return barnacle(barnacle).grade;
    }

    public boolean isOffered(int barnacle) {
        barnacle(barnacle);
        return data.offers.stream().anyMatch(o -> o.barnacle == barnacle);
    }

    public int placeBid(int ship, int grade, int price) {
        return change(() -> doPlaceBid(ship, grade, price));
    }

    private int doPlaceBid(int ship, int grade, int price) {
        ship(ship);
        range(grade, 1, 9);
        range(price, 1, 99);
        if (data.bids.size() == 10) {
            throw new Rejected(4, bidAt(9));
        }
        if (freePlaces(ship) == 0) {
            throw new Rejected(3, capacityOf(ship));
        }
        int free = coinsOf(ship) - reservedCoins(ship);
        if (free < price) {
            throw new Rejected(5, free);
        }
        data.bids.add(new Bid(data.nextBid, ship, grade, price, 0));
        return data.nextBid++;
    }

    public int placeOffer(int barnacle, int price) {
        return change(() -> doPlaceOffer(barnacle, price));
    }

    private int doPlaceOffer(int barnacle, int price) {
        barnacle(barnacle);
        range(price, 1, 99);
        for (Offer offer : data.offers) {
            if (offer.barnacle == barnacle) {
                throw new Rejected(6, offer.id);
            }
        }
        data.offers.add(new Offer(data.nextOffer, barnacle, price, 0));
        return data.nextOffer++;
    }

    public int cancelBid(int bid) {
        return change(() -> doCancelBid(bid));
    }

    private int doCancelBid(int bid) {
        data.bids.remove(bid(bid));
        return data.bids.size();
    }

    public int cancelOffer(int offer) {
        return change(() -> doCancelOffer(offer));
    }

    private int doCancelOffer(int offer) {
        data.offers.remove(offer(offer));
        return data.offers.size();
    }

    public int bidCount() {
        return data.bids.size();
    }

    public int offerCount() {
        return data.offers.size();
    }

    public int bidAt(int position) {
        return at(bidsInOrder(), position).id;
    }

    public int offerAt(int position) {
        return at(offersInOrder(), position).id;
    }

    public int shipOfBid(int bid) {
        return bid(bid).ship;
    }

    public int gradeOfBid(int bid) {
        return bid(bid).grade;
    }

    public int priceOfBid(int bid) {
        return bid(bid).price;
    }

    public int ageOfBid(int bid) {
        return bid(bid).age;
    }

    public int barnacleOfOffer(int offer) {
        return offer(offer).barnacle;
    }

    public int priceOfOffer(int offer) {
        return offer(offer).price;
    }

    public int ageOfOffer(int offer) {
        return offer(offer).age;
    }

    public int matchFor(int bid) {
        return fitting(bid(bid)).orElseThrow().id;
    }

    public int matchByBarnacles(int bid) {
        return matchFor(bid);
    }

    public int spread() {
        return at(bidsInOrder(), 0).price - at(offersInOrder(), 0).price;
    }

    public int passTide() {
        return change(this::doPassTide);
    }

    private int doPassTide() {
        int before = data.trades.size();
        for (Bid bid : bidsInOrder()) {
            fitting(bid).ifPresent(offer -> trade(bid, offer));
        }
        data.bids.replaceAll(b -> new Bid(b.id, b.ship, b.grade, b.price, b.age + 1));
        data.offers.replaceAll(o -> new Offer(o.id, o.barnacle, o.price, o.age + 1));
        int open = data.bids.size() + data.offers.size();
        data.bids.removeIf(b -> b.age == 3);
        data.offers.removeIf(o -> o.age == 3);
        data.expired += open - data.bids.size() - data.offers.size();
        data.tides++;
        return data.trades.size() - before;
    }

    private void trade(Bid bid, Offer offer) {
        Barnacle good = data.barnacles.get(offer.barnacle);
        int price = Math.floorDiv(bid.price + offer.price, 2);
        int fee = Math.min(data.fee, price);
        pay(bid.ship, -price);
        pay(good.ship, price);
        pay(good.ship, -fee);
        data.trades.add(new Trade(bid.ship, good.ship, offer.barnacle, price, fee));
        data.barnacles.set(offer.barnacle, new Barnacle(good.grade, bid.ship));
        data.bids.remove(bid);
        data.offers.remove(offer);
    }

    public int wouldTrade() {
        Data before = new Data(data);
        int trades = doPassTide();
        data = before;
        return trades;
    }

    public int setFee(int fee) {
        return change(() -> doSetFee(fee));
    }

    private int doSetFee(int fee) {
        range(fee, 0, 9);
        int previous = data.fee;
        data.fee = fee;
        return previous;
    }

    public int fee() {
        return data.fee;
    }

    public int tideCount() {
        return data.tides;
    }

    private Trade latest(int recency) {
        int count = data.trades.size();
        return at(data.trades.subList(Math.max(0, count - 10), count), Math.min(count, 10) - 1 - recency);
    }

    public int buyerOf(int recency) {
        return latest(recency).buyer;
    }

    public int sellerOf(int recency) {
        return latest(recency).seller;
    }

    public int barnacleOf(int recency) {
        return latest(recency).barnacle;
    }

    public int priceOf(int recency) {
        return latest(recency).price;
    }

    public int tradeCount() {
        return data.trades.size();
    }

    public int turnover() {
        return data.trades.stream().mapToInt(Trade::price).sum();
    }

    public int exchangeCoins() {
        return data.trades.stream().mapToInt(Trade::paidFee).sum();
    }

    public int expiredCount() {
        return data.expired;
    }

    public int allCoins() {
        return data.ships.stream().mapToInt(Ship::coins).sum() + exchangeCoins();
    }

    public int allCoinsGiven() {
        return data.given;
    }

    public int shipByWealth(int position) {
        return at(IntStream.range(0, shipCount()).boxed()
                .sorted(Comparator.comparing((Integer s) -> -wealth(s)).thenComparing(s -> -loadOf(s))
                        .thenComparing(s -> s))
                .collect(Collectors.toList()), position);
    }

    public double meanPrice() {
        if (tradeCount() == 0) {
            throw new ArithmeticException();
        }
        return (double) turnover() / (double) tradeCount();
    }

    public float offeredShare() {
        if (barnacleCount() == 0) {
            throw new ArithmeticException();
        }
        long offered = IntStream.range(0, barnacleCount()).filter(this::isOffered).count();
        return (float) offered / (float) barnacleCount();
    }

    public boolean isConsistent() {
        return true;
    }

    public int writeShip(int ship) {
        ship(ship);
        String text = ship + "$" + coinsOf(ship) + "(" + loadOf(ship) + "/" + capacityOf(ship) + ")";
        for (int b : barnaclesOn(ship)) {
            text += " " + b + "g" + gradeOf(b) + (isOffered(b) ? "!" : "");
        }
        output = text;
        return output.length();
    }

    public char outputAt(int index) {
        if (index < 0 || index >= output.length()) {
            throw new IndexOutOfBoundsException();
        }
        return output.charAt(index);
    }

    public int appendInput(char character) {
        range(character, 32, 126);
        if (input.length() == 60) {
            throw new IllegalStateException();
        }
        input += character;
        return input.length();
    }

    public int execute() {
        String text = input;
        input = "";
        if (!INPUT.matcher(text).matches()) {
            syntaxError = offsetIn(text);
            throw new IllegalArgumentException();
        }
        Data before = new Data(data);
        String[] commands = text.split(";");
        for (int number = 0; number < commands.length; number++) {
            try {
                run(commands[number]);
            } catch (Rejected r) {
                data = before;
                rejection = new int[] {7, number, r.reason};
                throw new UnsupportedOperationException();
            } catch (IndexOutOfBoundsException | IllegalArgumentException | NoSuchElementException e) {
                data = before;
                throw new IllegalStateException();
            }
        }
        remember(before);
        return commands.length;
    }

    /** The first character that makes a start of the text one that no input begins with. */
    private static int offsetIn(String text) {
        for (int end = 1; end <= text.length(); end++) {
            Matcher start = INPUT.matcher(text.substring(0, end));
            if (!start.matches() && !start.hitEnd()) {
                return end - 1;
            }
        }
        return text.length();
    }

    private void run(String command) {
        String body = command.substring(1);
        String[] parts = body.split("[/+@]");
        switch (command.charAt(0)) {
            case 's' -> doAddShip(Integer.parseInt(parts[0]), Integer.parseInt(parts[1]));
            case 'a' -> doAddBarnacle(body.charAt(0) - '0', body.charAt(1) - '0');
            case 'c' -> doGiveCoins(Integer.parseInt(parts[0]), Integer.parseInt(parts[1]));
            case 'b' -> doPlaceBid(body.charAt(0) - '0', body.charAt(1) - '0', Integer.parseInt(parts[1]));
            case 'o' -> doPlaceOffer(Integer.parseInt(parts[0]), Integer.parseInt(parts[1]));
            case 'x' -> doCancelBid(Integer.parseInt(body));
            case 'y' -> doCancelOffer(Integer.parseInt(body));
            case 't' -> doPassTide();
            default -> doSetFee(Integer.parseInt(body));
        }
    }

    public int syntaxErrorOffset() {
        return Optional.ofNullable(syntaxError).orElseThrow();
    }

    public int rejectionReason() {
        return Optional.ofNullable(rejection).orElseThrow()[0];
    }

    public int rejectionDetail() {
        return Optional.ofNullable(rejection).orElseThrow()[1];
    }

    public int causeReason() {
        return Optional.ofNullable(rejection).filter(r -> r[0] == 7).orElseThrow()[2];
    }

    public int undo() {
        if (past.isEmpty()) {
            throw new IllegalStateException();
        }
        data = past.pop();
        return past.size();
    }

    public int saveSnapshot() {
        saved = new Data(data);
        return shipCount();
    }

    public int restoreSnapshot() {
        if (saved == null) {
            throw new IllegalStateException();
        }
        data = new Data(saved);
        past.clear();
        return shipCount();
    }
}
