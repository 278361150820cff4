import java.lang.reflect.InvocationTargetException;
import java.lang.reflect.Method;
import java.lang.reflect.Modifier;
import java.util.ArrayList;
import java.util.Arrays;
import java.util.List;
import java.util.Objects;
import java.util.Random;

/** Runs of 512 calls on new objects, each call answered by the program and by the ReferenceExchange alike. */
public final class RandomRunsTest {
    private static final int RUNS = 4000;
    private static final int CALLS = 512;
    private static final List<Method> METHODS = new ArrayList<>();
    private static final List<Method> TWINS = new ArrayList<>();
    /** How often each method answered a value. */
    private static final int[] ANSWERED = new int[100];
    private static final String[] CHANGES = {
        "addShip", "addBarnacle", "addBarnacle", "addBarnacle", "addBarnacle", "giveCoins", "giveCoins", "placeBid",
        "placeBid", "placeBid", "placeBid", "placeBid", "placeOffer", "placeOffer", "placeOffer", "placeOffer",
        "cancelBid", "cancelOffer", "passTide", "passTide", "setFee", "undo", "saveSnapshot", "restoreSnapshot",
        "execute", "execute", "execute", "execute",
    };
    private static final int[] FAR_OUT = {Integer.MIN_VALUE, Integer.MAX_VALUE, -100, 100, 60, 16, 6, -1};

    private RandomRunsTest() {
    }

    public static void main(String[] args) throws ReflectiveOperationException {
        Method[] methods = BarnacleExchange.class.getDeclaredMethods();
        Arrays.sort(methods, (a, b) -> a.getName().compareTo(b.getName()));
        for (Method method : methods) {
            if (Modifier.isPublic(method.getModifiers())) {
                METHODS.add(method);
                TWINS.add(ReferenceExchange.class.getDeclaredMethod(method.getName(), method.getParameterTypes()));
            }
        }
        for (int run = 0; run < RUNS; run++) {
            playRun(run);
        }
        for (int i = 0; i < METHODS.size(); i++) {
            int method = i;
            Check.is(0, METHODS.get(i).getName() + " answered a value", true, () -> ANSWERED[method] > 100);
        }
        Check.end("RandomRunsTest", 0, 0);
    }

    private static void playRun(int run) throws ReflectiveOperationException {
        Random random = new Random(run);
        BarnacleExchange x = new BarnacleExchange();
        ReferenceExchange y = new ReferenceExchange();
        String input = "";
        List<String> told = new ArrayList<>();
        boolean isRestoringOften = random.nextInt(4) == 0;
        for (int call = 0; call < CALLS; call++) {
            int method;
            Object[] values;
            if (!input.isEmpty()) {
                method = indexOf("appendInput");
                values = new Object[] {input.charAt(0)};
                input = input.substring(1);
            } else {
                method = pick(random, call, isRestoringOften);
                values = valuesFor(METHODS.get(method), random, y);
                if (METHODS.get(method).getName().equals("execute")) {
                    input = script(random, y);
                }
            }
            Object due = answerOf(TWINS.get(method), y, values);
            Object got = answerOf(METHODS.get(method), x, values);
            told.add(METHODS.get(method).getName() + Arrays.toString(values) + " -> " + due);
            if (!(due instanceof String)) {
                ANSWERED[method]++;
            }
            if (!Objects.equals(due, got)) {
                told.forEach(System.out::println);
            }
            Check.judge(0, "run " + run + ", call " + call, due, got);
            if (!Objects.equals(due, got)) {
                return;
            }
        }
    }

    private static int pick(Random random, int call, boolean isRestoringOften) {
        if (call < 5) {
            return indexOf("addShip");
        }
        if (random.nextInt(100) < 45) {
            return random.nextInt(METHODS.size());
        }
        String change = CHANGES[random.nextInt(CHANGES.length)];
        if (change.equals("restoreSnapshot") && !isRestoringOften && random.nextInt(8) > 0) {
            change = "passTide";
        }
        return indexOf(change);
    }

    private static int indexOf(String name) {
        for (int i = 0; i < METHODS.size(); i++) {
            if (METHODS.get(i).getName().equals(name)) {
                return i;
            }
        }
        throw new IllegalArgumentException(name);
    }

    private static Object answerOf(Method method, Object object, Object[] values) throws ReflectiveOperationException {
        try {
            return method.invoke(object, values);
        } catch (InvocationTargetException e) {
            return "throws." + e.getCause().getClass().getSimpleName();
        }
    }

    private static Object[] valuesFor(Method method, Random random, ReferenceExchange y) {
        String name = method.getName();
        int count = method.getParameterCount();
        if (name.equals("appendInput")) {
            int code = random.nextInt(10) == 0 ? random.nextInt(65536) : "sacboxytf0123;@/+".charAt(random.nextInt(17));
            return new Object[] {(char) code};
        }
        Object[] values = new Object[count];
        for (int i = 0; i < count; i++) {
            values[i] = random.nextInt(40) == 0 ? FAR_OUT[random.nextInt(FAR_OUT.length)] : value(name, i, random, y);
        }
        return values;
    }

    private static int value(String name, int place, Random random, ReferenceExchange y) {
        switch (name + place) {
            case "addShip0":
                return random.nextInt(100);
            case "addShip1":
                return 1 + random.nextInt(5);
            case "addBarnacle0", "giveCoins0", "placeBid0", "writeShip0", "barnacleAt0":
                return random.nextInt(y.shipCount() + 1 + (random.nextInt(20) == 0 ? 1 : 0)) % 7;
            case "addBarnacle1", "placeBid1":
                return random.nextInt(20) == 0 ? random.nextInt(11) : 1 + random.nextInt(1 + random.nextInt(9));
            case "giveCoins1":
                return 1 + random.nextInt(random.nextBoolean() ? 99 : 5);
            case "placeBid2":
                return 1 + random.nextInt(random.nextInt(4) == 0 ? 99 : 30);
            case "placeOffer1":
                return 1 + random.nextInt(random.nextInt(4) == 0 ? 99 : 20);
            case "setFee0":
                return random.nextInt(11) - random.nextInt(2);
            case "outputAt0":
                return random.nextInt(35) - 1;
            default:
                return named(name, random, y);
        }
    }

    private static int named(String name, Random random, ReferenceExchange y) {
        boolean isOpenOne = random.nextInt(4) > 0;
        if (name.endsWith("Bid") || name.startsWith("match")) {
            return isOpenOne && y.bidCount() > 0 ? y.bidAt(random.nextInt(y.bidCount())) : random.nextInt(40);
        }
        if (name.endsWith("Offer") && !name.equals("placeOffer")) {
            return isOpenOne && y.offerCount() > 0 ? y.offerAt(random.nextInt(y.offerCount())) : random.nextInt(40);
        }
        if (name.equals("placeOffer") || name.equals("shipOf") || name.equals("gradeOf") || name.equals("isOffered")) {
            return random.nextInt(y.barnacleCount() + 1);
        }
        if (name.endsWith("At") && !name.equals("barnacleAt") || name.equals("shipByWealth") || name.endsWith("Of")) {
            return random.nextInt(12) - 1;
        }
        return random.nextInt(7) - 1;
    }

    /** The characters that are typed next, most often commands, some of them spoilt. */
    private static String script(Random random, ReferenceExchange y) {
        StringBuilder text = new StringBuilder();
        int commands = random.nextInt(3) == 0 ? random.nextInt(16) : 1 + random.nextInt(4);
        for (int i = 0; i < commands; i++) {
            text.append(i == 0 ? "" : ";").append(command(random, y));
        }
        int spoils = random.nextInt(4) == 0 ? 1 + random.nextInt(2) : 0;
        for (int i = 0; i < spoils && text.length() > 0; i++) {
            int at = random.nextInt(text.length());
            String sign = String.valueOf("sacboxytf019;@/+ ~".charAt(random.nextInt(18)));
            text.replace(at, at + random.nextInt(2), random.nextBoolean() ? sign : "");
        }
        return text.substring(0, Math.min(text.length(), 62));
    }

    private static String command(Random random, ReferenceExchange y) {
        int ship = random.nextInt(Math.max(1, y.shipCount()));
        int grade = random.nextInt(30) == 0 ? 0 : 1 + random.nextInt(9);
        int price = random.nextInt(30) == 0 ? 0 : 1 + random.nextInt(random.nextInt(3) == 0 ? 99 : 25);
        switch (random.nextInt(12)) {
            case 0:
                return "s" + price + "/" + (1 + random.nextInt(6));
            case 1, 2:
                return "a" + ship + grade;
            case 3:
                return "c" + ship + "+" + (price < 10 ? "0" : "") + price;
            case 4, 5, 6:
                return "b" + ship + random.nextInt(grade + 1) + "@" + price;
            case 7, 8:
                return "o" + random.nextInt(y.barnacleCount() + 1) + "@" + price;
            case 9:
                return (y.bidCount() > 0 ? "x" + y.bidAt(random.nextInt(y.bidCount())) % 100 : "t");
            case 10:
                return (y.offerCount() > 0 ? "y" + y.offerAt(random.nextInt(y.offerCount())) % 100 : "f" + grade);
            default:
                return random.nextBoolean() ? "t" : "f" + grade;
        }
    }
}
