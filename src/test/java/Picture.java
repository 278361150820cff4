import java.util.LinkedHashMap;
import java.util.Map;
import java.util.Objects;
import java.util.TreeSet;

/**
 * All that can be seen of an exchange, in parts. Looking at some of it changes the exchange, and no object may be used
 * for more than 512 calls; so every part is looked at on an object of its own, which the scene makes.
 */
final class Picture {
    /** Makes the same exchange every time. */
    interface Scene {
        BarnacleExchange make();
    }

    private static final int MORE_THAN_ALL_CHANGES = 10;

    private final Map<String, String> parts = new LinkedHashMap<>();

    Picture(Scene scene) {
        parts.put("data", data(scene));
        parts.put("changes", changes(scene));
        parts.put("snapshot", snapshot(scene));
        parts.put("output", output(scene.make()));
        parts.put("input", input(scene));
        parts.put("rejection", rejection(scene.make()));
        parts.put("syntax error", "" + Check.answerOf(scene.make()::syntaxErrorOffset));
    }

    /** The names of the parts that are not alike. */
    TreeSet<String> differences(Picture other) {
        TreeSet<String> names = new TreeSet<>();
        for (String name : parts.keySet()) {
            if (!Objects.equals(parts.get(name), other.parts.get(name))) {
                names.add(name);
            }
        }
        return names;
    }

    /** What undo and the snapshot cover, the ids that are given next included. */
    static String data(Scene scene) {
        return ships(scene.make()) + orders(scene.make()) + totals(scene.make()) + nextIds(scene.make());
    }

    static String rejection(BarnacleExchange x) {
        return Check.answerOf(x::rejectionReason) + " " + Check.answerOf(x::rejectionDetail) + " "
                + Check.answerOf(x::causeReason);
    }

    static String output(BarnacleExchange x) {
        StringBuilder text = new StringBuilder();
        Object sign = Check.answerOf(() -> x.outputAt(0));
        for (int index = 1; sign instanceof Character; index++) {
            text.append(sign);
            int next = index;
            sign = Check.answerOf(() -> x.outputAt(next));
        }
        return text.toString();
    }

    private static String changes(Scene scene) {
        StringBuilder text = new StringBuilder();
        for (int undone = 1; undone < MORE_THAN_ALL_CHANGES; undone++) {
            int count = undone;
            BarnacleExchange x = undo(scene.make(), count - 1);
            Object left = Check.answerOf(x::undo);
            text.append("undo ").append(left).append('\n');
            if (!(left instanceof Integer)) {
                break;
            }
            text.append(data(() -> undo(scene.make(), count)));
        }
        return text.toString();
    }

    private static BarnacleExchange undo(BarnacleExchange x, int count) {
        for (int i = 0; i < count; i++) {
            x.undo();
        }
        return x;
    }

    private static String snapshot(Scene scene) {
        Object ships = Check.answerOf(scene.make()::restoreSnapshot);
        if (!(ships instanceof Integer)) {
            return "" + ships;
        }
        return ships + data(() -> {
            BarnacleExchange x = scene.make();
            x.restoreSnapshot();
            return x;
        });
    }

    /** The inputs of the scenes are empty or have commands that never fail, so nothing here is of the data. */
    private static String input(Scene scene) {
        Object length = Check.answerOf(() -> scene.make().appendInput('t'));
        BarnacleExchange x = scene.make();
        int tides = x.tideCount();
        Object commands = Check.answerOf(x::execute);
        if (commands instanceof Integer) {
            return length + ": " + commands + " commands, " + (x.tideCount() - tides) + " tides, fee " + x.fee();
        }
        return length + ": " + commands + " at " + Check.answerOf(x::syntaxErrorOffset);
    }

    private static String ships(BarnacleExchange x) {
        StringBuilder text = new StringBuilder();
        for (int ship = 0; ship < x.shipCount(); ship++) {
            text.append("ship ").append(x.coinsOf(ship)).append(' ').append(x.reservedCoins(ship)).append(' ');
            text.append(x.capacityOf(ship)).append(' ').append(x.freePlaces(ship)).append(':');
            int load = x.loadOf(ship);
            for (int position = 0; position < load; position++) {
                text.append(' ').append(x.barnacleAt(ship, position));
            }
            text.append(", wealth ").append(x.shipByWealth(ship)).append('\n');
        }
        int barnacles = x.barnacleCount();
        for (int barnacle = 0; barnacle < barnacles; barnacle++) {
            text.append("barnacle ").append(x.shipOf(barnacle)).append(' ').append(x.gradeOf(barnacle)).append(' ');
            text.append(x.isOffered(barnacle)).append('\n');
        }
        return text.toString();
    }

    private static String orders(BarnacleExchange x) {
        StringBuilder text = new StringBuilder();
        int bids = x.bidCount();
        for (int position = 0; position < bids; position++) {
            int bid = x.bidAt(position);
            text.append("bid ").append(bid).append(' ').append(x.shipOfBid(bid)).append(' ').append(x.gradeOfBid(bid));
            text.append(' ').append(x.priceOfBid(bid)).append(' ').append(x.ageOfBid(bid)).append(' ');
            text.append(Check.answerOf(() -> x.matchFor(bid))).append(' ');
            text.append(Check.answerOf(() -> x.matchByBarnacles(bid))).append('\n');
        }
        int offers = x.offerCount();
        for (int position = 0; position < offers; position++) {
            int offer = x.offerAt(position);
            text.append("offer ").append(offer).append(' ').append(x.barnacleOfOffer(offer)).append(' ');
            text.append(x.priceOfOffer(offer)).append(' ').append(x.ageOfOffer(offer)).append('\n');
        }
        return text.append("spread ").append(Check.answerOf(x::spread)).append('\n').toString();
    }

    private static String totals(BarnacleExchange x) {
        StringBuilder text = new StringBuilder();
        int trades = Math.min(x.tradeCount(), 10);
        for (int recency = 0; recency < trades; recency++) {
            text.append("trade ").append(x.buyerOf(recency)).append(' ').append(x.sellerOf(recency)).append(' ');
            text.append(x.barnacleOf(recency)).append(' ').append(x.priceOf(recency)).append('\n');
        }
        text.append(x.tradeCount()).append(' ').append(x.turnover()).append(' ').append(x.exchangeCoins()).append(' ');
        text.append(x.expiredCount()).append(' ').append(x.allCoins()).append(' ').append(x.allCoinsGiven());
        text.append(' ').append(x.tideCount()).append(' ').append(x.fee()).append(' ').append(x.wouldTrade());
        text.append(' ').append(x.isConsistent()).append(' ').append(Check.answerOf(x::meanPrice)).append(' ');
        return text.append(Check.answerOf(x::offeredShare)).append('\n').toString();
    }

    private static String nextIds(BarnacleExchange x) {
        StringBuilder text = new StringBuilder("next");
        while (x.bidCount() > 0) {
            x.cancelBid(x.bidAt(0));
        }
        while (x.offerCount() > 0) {
            x.cancelOffer(x.offerAt(0));
        }
        int ships = x.shipCount();
        for (int i = 0; i < ships; i++) {
            int ship = i;
            x.giveCoins(ship, 1);
            text.append(' ').append(Check.answerOf(() -> x.placeBid(ship, 1, 1)));
        }
        return text.append(' ').append(Check.answerOf(() -> x.placeOffer(0, 1))).append('\n').toString();
    }
}
