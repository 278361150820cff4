import java.io.IOException;
import java.lang.reflect.Constructor;
import java.lang.reflect.Field;
import java.lang.reflect.Member;
import java.lang.reflect.Method;
import java.lang.reflect.Modifier;
import java.nio.file.Files;
import java.nio.file.Path;
import java.util.Arrays;
import java.util.TreeSet;

/** The class has the face of the document: these members with these exceptions, and no others. */
public final class FaceTest {
    private static final String OUT = " throws IndexOutOfBoundsException";
    private static final String ILL = " throws IllegalArgumentException";
    private static final String NON = " throws NoSuchElementException";
    private static final String STA = " throws IllegalStateException";
    private static final String ARI = " throws ArithmeticException";

    private static final String[] CONSTANTS = {
        "SHIP_LIMIT = 1", "BARNACLE_LIMIT = 2", "NO_PLACE = 3", "BID_LIMIT = 4", "TOO_POOR = 5", "OFFERED = 6",
        "COMMAND_REJECTED = 7",
    };

    private static final String[] METHODS = {
        "int addShip(int, int)" + ILL + ", UnsupportedOperationException",
        "int addBarnacle(int, int)" + OUT + ", IllegalArgumentException, UnsupportedOperationException",
        "int giveCoins(int, int)" + OUT + ", IllegalArgumentException",
        "int shipCount()", "int coinsOf(int)" + OUT, "int reservedCoins(int)" + OUT, "int capacityOf(int)" + OUT,
        "int loadOf(int)" + OUT, "int freePlaces(int)" + OUT,
        "int barnacleAt(int, int)" + OUT + ", NoSuchElementException",
        "int barnacleCount()", "int shipOf(int)" + OUT, "int gradeOf(int)" + OUT, "boolean isOffered(int)" + OUT,
        "int placeBid(int, int, int)" + OUT + ", IllegalArgumentException, UnsupportedOperationException",
        "int placeOffer(int, int)" + OUT + ", IllegalArgumentException, UnsupportedOperationException",
        "int cancelBid(int)" + NON, "int cancelOffer(int)" + NON, "int bidCount()", "int offerCount()",
        "int bidAt(int)" + NON, "int offerAt(int)" + NON, "int shipOfBid(int)" + NON, "int gradeOfBid(int)" + NON,
        "int priceOfBid(int)" + NON, "int ageOfBid(int)" + NON, "int barnacleOfOffer(int)" + NON,
        "int priceOfOffer(int)" + NON, "int ageOfOffer(int)" + NON, "int matchFor(int)" + NON,
        "int matchByBarnacles(int)" + NON, "int spread()" + NON,
        "int passTide()", "int wouldTrade()", "int setFee(int)" + ILL, "int fee()", "int tideCount()",
        "int buyerOf(int)" + NON, "int sellerOf(int)" + NON, "int barnacleOf(int)" + NON, "int priceOf(int)" + NON,
        "int tradeCount()", "int turnover()", "int exchangeCoins()", "int expiredCount()", "int allCoins()",
        "int allCoinsGiven()", "int shipByWealth(int)" + NON, "double meanPrice()" + ARI,
        "float offeredShare()" + ARI, "boolean isConsistent()",
        "int writeShip(int)" + OUT, "char outputAt(int)" + OUT,
        "int appendInput(char)" + ILL + ", IllegalStateException",
        "int execute()" + ILL + ", IllegalStateException, UnsupportedOperationException",
        "int syntaxErrorOffset()" + NON,
        "int rejectionReason()" + NON, "int rejectionDetail()" + NON, "int causeReason()" + NON, "int undo()" + STA,
        "int saveSnapshot()", "int restoreSnapshot()" + STA,
    };

    private FaceTest() {
    }

    public static void main(String[] args) throws IOException, ReflectiveOperationException {
        Class<?> face = BarnacleExchange.class;
        Check.is(0, "the class", "public final", () -> Modifier.toString(face.getModifiers()));
        Check.is(0, "the constants", new TreeSet<>(Arrays.asList(CONSTANTS)), () -> constantsOf(face));
        Check.is(0, "the methods", new TreeSet<>(Arrays.asList(METHODS)), () -> methodsOf(face));
        Check.is(0, "the number of methods", 62, () -> METHODS.length);
        Constructor<?>[] constructors = face.getDeclaredConstructors();
        Check.is(0, "the constructors", "[public BarnacleExchange()]", () -> Arrays.toString(constructors));
        Check.is(0, "private names that are public too", new TreeSet<String>(), () -> namesTwice(face));
        for (Class<?> inner : face.getDeclaredClasses()) {
            int modifiers = inner.getModifiers();
            boolean isHidden = !Modifier.isPublic(modifiers) && !Modifier.isProtected(modifiers);
            Check.is(0, inner + " is hidden and static", true, () -> isHidden && Modifier.isStatic(modifiers));
        }
        showLinesOfTheDocument();
        Check.end("FaceTest", 0, 0);
    }

    /** The names of the arguments are not seen on the class, so its text is compared with the document's. */
    private static void showLinesOfTheDocument() throws IOException {
        String document = Files.readString(Path.of("../shared/DOC.md"));
        int start = document.indexOf("```java\n");
        String face = document.substring(start, document.indexOf("```\n", start));
        String program = Files.readString(Path.of("src/main/java/BarnacleExchange.java")).replaceAll("\\s+", " ");
        TreeSet<String> missing = new TreeSet<>();
        int lines = 0;
        for (String line : face.split("\n")) {
            if (line.strip().startsWith("public ")) {
                lines++;
                // A method ends with ";" in the document, where its body follows in the program.
                String due = line.contains("(") ? line.strip().replace(";", " {") : line.strip();
                if (!program.contains(due)) {
                    missing.add(due);
                }
            }
        }
        int found = lines;
        Check.is(0, "the lines of the document's face", 1 + CONSTANTS.length + 1 + METHODS.length, () -> found);
        Check.is(0, "those that the program has not", new TreeSet<String>(), () -> missing);
    }

    private static boolean isHidden(Member member) {
        return Modifier.isPrivate(member.getModifiers()) || member.isSynthetic();
    }

    private static TreeSet<String> constantsOf(Class<?> face) {
        TreeSet<String> found = new TreeSet<>();
        for (Field field : face.getDeclaredFields()) {
            if (isHidden(field)) {
                continue;
            }
            boolean isConstant = Modifier.toString(field.getModifiers()).equals("public static final");
            try {
                found.add(isConstant ? field.getName() + " = " + field.get(null) : "not a constant: " + field);
            } catch (IllegalAccessException e) {
                found.add("not readable: " + field);
            }
        }
        return found;
    }

    private static TreeSet<String> methodsOf(Class<?> face) {
        TreeSet<String> found = new TreeSet<>();
        for (Method method : face.getDeclaredMethods()) {
            if (!isHidden(method)) {
                found.add(describe(method));
            }
        }
        return found;
    }

    private static String describe(Method method) {
        StringBuilder text = new StringBuilder();
        if (method.getModifiers() != Modifier.PUBLIC) {
            text.append("not only public: ");
        }
        text.append(method.getReturnType().getSimpleName()).append(' ').append(method.getName());
        text.append('(').append(namesOf(method.getParameterTypes())).append(')');
        if (method.getExceptionTypes().length > 0) {
            text.append(" throws ").append(namesOf(method.getExceptionTypes()));
        }
        return text.toString();
    }

    private static String namesOf(Class<?>[] types) {
        return String.join(", ", Arrays.stream(types).map(Class::getSimpleName).toArray(String[]::new));
    }

    private static TreeSet<String> namesTwice(Class<?> face) {
        TreeSet<String> publicNames = new TreeSet<>();
        TreeSet<String> otherNames = new TreeSet<>();
        for (Method method : face.getDeclaredMethods()) {
            (isHidden(method) ? otherNames : publicNames).add(method.getName());
        }
        for (Class<?> inner : face.getDeclaredClasses()) {
            for (Method method : inner.getDeclaredMethods()) {
                otherNames.add(method.getName());
            }
        }
        otherNames.retainAll(publicNames);
        return otherNames;
    }
}
