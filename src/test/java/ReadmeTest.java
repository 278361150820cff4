import java.io.IOException;
import java.lang.reflect.Field;
import java.lang.reflect.InvocationTargetException;
import java.lang.reflect.Method;
import java.lang.reflect.Modifier;
import java.nio.file.Files;
import java.nio.file.Path;
import java.util.Arrays;
import java.util.List;
import java.util.TreeSet;
import java.util.regex.MatchResult;
import java.util.regex.Matcher;
import java.util.regex.Pattern;

/** What README.md says of the class: its examples, its calls, its constants, its commands and its tests. */
public final class ReadmeTest {
    private ReadmeTest() {
    }

    public static void main(String[] args) throws IOException, ReflectiveOperationException {
        String page = Files.readString(Path.of("README.md"));
        Check.is(0, "lines of the examples that this test does not run", new TreeSet<String>(), () -> notRun(page));
        examples();
        Check.is(0, "the calls", methods(), () -> quoted(section(page, "### The calls"), "`(\\w+)`"));
        Check.is(0, "the constants", constants(),
                () -> quoted(section(page, "### Rejections"), "\\| (`[A-Z_]+` \\| \\d) \\|"));
        Check.is(0, "the exceptions", exceptions(), () -> quoted(section(page, "### Exceptions"), "\\| `(\\w+)` \\|"));
        commands(section(page, "### Commands"));
        Check.is(0, "the tests", tests(), () -> quoted(section(page, "## How to run its tests"), "\\| `(\\w+)` \\|"));
        Check.end("ReadmeTest", 0, 0);
    }

    /** The lines of the examples stand below as the page has them; what follows each of their values is a check. */
    private static void examples() {
        BarnacleExchange exchange = new BarnacleExchange();
        int seller = exchange.addShip(20, 2);              // a ship with 20 coins and 2 places
        int buyer = exchange.addShip(50, 3);
        int barnacle = exchange.addBarnacle(seller, 4);    // a barnacle of grade 4
        exchange.placeOffer(barnacle, 10);                 // for 10 coins or more
        int bid = exchange.placeBid(buyer, 2, 21);         // for grade 2 or better, and 21 coins or less
        int offer = exchange.matchFor(bid);                // 0: the id of the offer
        Check.is(0, "matchFor", 0, () -> offer);
        int trades = exchange.passTide();                  // 1: the barnacle is traded for 15 coins, half way between
        Check.is(0, "passTide", 1, () -> trades);
        Check.is(0, "the price", 15, () -> exchange.priceOf(0));
        int sellersCoins = exchange.coinsOf(seller);       // 34: the exchange took a fee of 1
        Check.is(0, "the seller's coins", 34, () -> sellersCoins);
        Check.is(0, "the fee", 1, exchange::exchangeCoins);
        int changesLeft = exchange.undo();                 // 5: the tide has not passed, and 5 changes can still be undone
        Check.is(0, "undo", 5, () -> changesLeft);
        Check.is(0, "the tide", 0, exchange::tideCount);
        boolean isRejected = false;
        try {
            exchange.placeBid(buyer, 2, 40);
        } catch (UnsupportedOperationException e) {
            int reason = exchange.rejectionReason();       // TOO_POOR
            int coins = exchange.rejectionDetail();        // 29: of the 50 coins, 21 are reserved for the first bid
            Check.is(0, "the reason", BarnacleExchange.TOO_POOR, () -> reason);
            Check.is(0, "the detail", 29, () -> coins);
            isRejected = true;
        }
        boolean rejected = isRejected;
        Check.is(0, "the second bid is rejected", true, () -> rejected);
        BarnacleExchange other = new BarnacleExchange();
        String commands = "s20/2;s50/3;a04;o0@10;b12@21;t";
        for (int i = 0; i < commands.length(); i++) {
            other.appendInput(commands.charAt(i));
        }
        int carriedOut = other.execute();                  // 6, as one change that one undo takes back
        Check.is(0, "execute", 6, () -> carriedOut);
        Check.is(0, "the trades", 1, other::tradeCount);
        Check.is(0, "one undo", 0, other::undo);
        Check.is(0, "no ships", 0, other::shipCount);
    }

    private static TreeSet<String> notRun(String page) {
        List<String> here;
        try {
            here = Files.readString(Path.of("src/test/java/ReadmeTest.java")).lines().map(String::strip).toList();
        } catch (IOException e) {
            return new TreeSet<>(List.of("" + e));
        }
        TreeSet<String> missing = new TreeSet<>();
        int examples = 0;
        Matcher example = Pattern.compile("(?s)```java\n(.*?)```").matcher(page);
        while (example.find()) {
            examples++;
            example.group(1).lines().map(String::strip).filter(line -> !here.contains(line)).forEach(missing::add);
        }
        if (examples != 3) {
            missing.add(examples + " examples");
        }
        return missing;
    }

    /** Each command of the table does what the call beside it does. */
    private static void commands(String table) {
        Matcher row = Pattern.compile("\\| `([^`]+)` \\| `(\\w+)\\(([^`]*)\\)` \\|").matcher(table);
        TreeSet<Character> letters = new TreeSet<>();
        while (row.find()) {
            MatchResult found = row.toMatchResult();
            String command = found.group(1);
            letters.add(command.charAt(0));
            Check.is(0, "the command " + command, "1\n" + Picture.data(() -> called(found.group(2), found.group(3))),
                    () -> executed(command));
        }
        Check.is(0, "the commands", "[a, b, c, f, o, s, t, x, y]", letters::toString);
    }

    private static BarnacleExchange scene() {
        BarnacleExchange x = new BarnacleExchange();
        x.addShip(50, 5);
        x.addShip(60, 5);
        for (int barnacle = 0; barnacle < 3; barnacle++) {
            x.addBarnacle(barnacle % 2, 3);
        }
        x.placeOffer(0, 15);
        x.placeOffer(1, 30);
        x.placeBid(1, 2, 20);
        x.placeBid(0, 9, 20);
        return x;
    }

    private static String executed(String command) {
        Object count = Check.run(scene(), command);
        return count + "\n" + Picture.data(() -> {
            BarnacleExchange x = scene();
            Check.run(x, command);
            return x;
        });
    }

    private static BarnacleExchange called(String name, String numbers) {
        BarnacleExchange x = scene();
        Object[] values = numbers.isEmpty() ? new Object[0]
                : Arrays.stream(numbers.split(", ")).map(Integer::valueOf).toArray();
        Class<?>[] types = new Class<?>[values.length];
        Arrays.fill(types, int.class);
        try {
            BarnacleExchange.class.getMethod(name, types).invoke(x, values);
        } catch (NoSuchMethodException | IllegalAccessException | InvocationTargetException e) {
            throw new IllegalStateException("the call " + name + "(" + numbers + ") fails", e);
        }
        return x;
    }

    /** From the heading up to the next one. */
    private static String section(String page, String heading) {
        int start = page.indexOf("\n" + heading + "\n");
        if (start < 0) {
            return "";
        }
        int end = page.indexOf("\n#", start + heading.length());
        return end < 0 ? page.substring(start) : page.substring(start, end);
    }

    private static TreeSet<String> quoted(String text, String pattern) {
        TreeSet<String> all = new TreeSet<>();
        Matcher matcher = Pattern.compile(pattern).matcher(text);
        while (matcher.find()) {
            all.add(matcher.group(1));
        }
        return all;
    }

    private static TreeSet<String> methods() {
        TreeSet<String> names = new TreeSet<>();
        for (Method method : BarnacleExchange.class.getDeclaredMethods()) {
            if (Modifier.isPublic(method.getModifiers())) {
                names.add(method.getName());
            }
        }
        return names;
    }

    private static TreeSet<String> constants() throws IllegalAccessException {
        TreeSet<String> rows = new TreeSet<>();
        for (Field field : BarnacleExchange.class.getFields()) {
            rows.add("`" + field.getName() + "` | " + field.get(null));
        }
        return rows;
    }

    private static TreeSet<String> exceptions() {
        TreeSet<String> names = new TreeSet<>();
        for (Method method : BarnacleExchange.class.getDeclaredMethods()) {
            for (Class<?> exception : method.getExceptionTypes()) {
                names.add(exception.getSimpleName());
            }
        }
        return names;
    }

    private static TreeSet<String> tests() throws IOException {
        TreeSet<String> names = new TreeSet<>();
        try (var files = Files.list(Path.of("src/test/java"))) {
            files.map(file -> file.getFileName().toString()).filter(name -> name.endsWith("Test.java"))
                    .forEach(name -> names.add(name.replace(".java", "")));
        }
        return names;
    }
}
