import java.lang.reflect.Constructor;
import java.lang.reflect.Field;
import java.lang.reflect.Method;
import java.lang.reflect.Modifier;
import java.nio.file.Files;
import java.nio.file.Path;
import java.util.Arrays;
import java.util.Set;
import java.util.TreeSet;
import java.util.stream.Collectors;

/** The public face, and the rules of LANGUAGE.md that a look at the class can tell. */
public final class FaceTest {
    private static final Check check = new Check("FaceTest");

    private static final String[] METHODS = {
        "int appendInput(int, int, int, int, int) throws IllegalStateException",
        "int truncateInput(int) throws IllegalArgumentException",
        "int load() throws IllegalArgumentException",
        "int errorCode()", "int errorPosition()", "int hour()", "int bakerCount()", "int customerCount()",
        "int loafCount()", "int crumbs()", "int sparrows()",
        "int bakerNameByte(int, int) throws IndexOutOfBoundsException, NoSuchElementException",
        "int ovenSize(int) throws IndexOutOfBoundsException",
        "int bakingKind(int) throws IndexOutOfBoundsException",
        "int hoursLeft(int) throws IndexOutOfBoundsException",
        "int income(int) throws IndexOutOfBoundsException",
        "int bakeRefusal(int, int) throws IndexOutOfBoundsException",
        "int customerNameByte(int, int) throws IndexOutOfBoundsException, NoSuchElementException",
        "int ticketOf(int) throws IndexOutOfBoundsException",
        "int kindWanted(int) throws IndexOutOfBoundsException",
        "int wanted(int) throws IndexOutOfBoundsException",
        "int limitPrice(int) throws IndexOutOfBoundsException",
        "int purse(int) throws IndexOutOfBoundsException",
        "int patience(int) throws IndexOutOfBoundsException",
        "int customerWithTicket(int)",
        "int loafKind(int) throws IndexOutOfBoundsException",
        "int loafBaker(int) throws IndexOutOfBoundsException",
        "int loafAge(int) throws IndexOutOfBoundsException",
        "int reservePrice(int) throws IndexOutOfBoundsException",
        "int hoursUntilStale(int) throws IndexOutOfBoundsException",
        "int basePrice(int) throws IndexOutOfBoundsException",
        "int reserveAt(int, int) throws IndexOutOfBoundsException, IllegalArgumentException",
        "int bidCount(int) throws IndexOutOfBoundsException",
        "int tradeCount(int) throws IndexOutOfBoundsException",
        "int clearingPrice(int) throws IndexOutOfBoundsException",
        "int reasonNoTrades(int) throws IndexOutOfBoundsException",
        "int buyerOf(int, int) throws IndexOutOfBoundsException, NoSuchElementException",
        "int loafOf(int, int) throws IndexOutOfBoundsException, NoSuchElementException",
        "int gain(int) throws IndexOutOfBoundsException",
        "int eventCount()",
        "int eventType(int) throws IndexOutOfBoundsException",
        "int eventFirst(int) throws IndexOutOfBoundsException",
        "int eventSecond(int) throws IndexOutOfBoundsException",
        "int moneyDifference()", "int loafDifference()",
        "int sparrowsAfter(int) throws IllegalArgumentException",
        "int loavesAfter(int) throws IllegalArgumentException",
        "int tradesAfter(int, int) throws IndexOutOfBoundsException, IllegalArgumentException",
        "int bestHour(int) throws IndexOutOfBoundsException",
        "double meanAge()", "float soldShare()",
        "int bake(int, int) throws IndexOutOfBoundsException, IllegalStateException",
        "int auction(int) throws IndexOutOfBoundsException",
        "int joinQueue(int, int, int, int, int) throws IndexOutOfBoundsException, IllegalArgumentException, IllegalStateException",
        "int sendAway(int) throws IndexOutOfBoundsException",
        "int setBasePrice(int, int) throws IndexOutOfBoundsException, IllegalArgumentException",
        "int scatter(int) throws IllegalArgumentException",
        "int passHours(int) throws IllegalArgumentException",
        "int writeQueue()",
        "int outputByte(int) throws NoSuchElementException",
        "int save(int) throws IndexOutOfBoundsException",
        "int restore(int) throws IndexOutOfBoundsException, IllegalStateException",
        "int undo() throws IllegalStateException",
        "int undoDepth()"
    };

    public static void main(String[] args) throws Exception {
        methods();
        constants();
        classes();
        source();
        everyPromiseHasATest();
        check.end();
    }

    private static void methods() {
        Set<String> names = new TreeSet<>();
        Set<String> got = new TreeSet<>();
        for (Method method : LoafMarket.class.getDeclaredMethods()) {
            if (Modifier.isPublic(method.getModifiers())) {
                names.add(method.getName());
                got.add(told(method));
                check.dueTrue(method + " is of the object", !Modifier.isStatic(method.getModifiers()));
            }
        }
        check.dueText("the public methods", got.toString(), new TreeSet<>(Arrays.asList(METHODS)).toString());
        noOtherBears(names, LoafMarket.class);
        for (Class<?> inside : LoafMarket.class.getDeclaredClasses()) {
            noOtherBears(names, inside);
        }
        Constructor<?>[] made = LoafMarket.class.getDeclaredConstructors();
        check.due("constructors", made.length, 1);
        check.dueText("the constructor", made[0].toString(), "public LoafMarket()");
    }

    private static String told(Method method) {
        String thrown = Arrays.stream(method.getExceptionTypes()).map(Class::getSimpleName).collect(Collectors.joining(", "));
        String given = Arrays.stream(method.getParameterTypes()).map(Class::getSimpleName).collect(Collectors.joining(", "));
        return method.getReturnType().getSimpleName() + " " + method.getName() + "(" + given + ")" + (thrown.isEmpty() ? "" : " throws " + thrown);
    }

    private static void noOtherBears(Set<String> names, Class<?> type) {
        for (Method method : type.getDeclaredMethods()) {
            boolean face = type == LoafMarket.class && Modifier.isPublic(method.getModifiers());
            check.dueTrue(method + " has a name of its own", face || !names.contains(method.getName()));
            check.dueTrue(method + " has at most seven parameters", method.getParameterCount() <= 7);
            check.dueTrue(method + " is private or of the face", face || type != LoafMarket.class || Modifier.isPrivate(method.getModifiers()));
        }
    }

    private static void constants() throws Exception {
        String[] names = {"NONE", "RYE", "WHEAT", "ROLL", "BAKED", "SOLD", "WASTED", "LEFT"};
        int[] values = {-1, 0, 1, 2, 0, 1, 2, 3};
        Set<String> due = new TreeSet<>(Arrays.asList(names));
        for (int i = 0; i < names.length; i++) {
            Field field = LoafMarket.class.getField(names[i]);
            check.due(names[i], field.getInt(null), values[i]);
            check.dueTrue(names[i] + " is an int", field.getType() == int.class);
        }
        for (Field field : LoafMarket.class.getDeclaredFields()) {
            int kind = field.getModifiers();
            check.dueTrue(field + " is private or of the face", Modifier.isPrivate(kind) || due.contains(field.getName()));
            check.dueTrue(field + " is final if static", !Modifier.isStatic(kind) || Modifier.isFinal(kind));
            if (due.contains(field.getName())) {
                check.dueText(field.getName(), Modifier.toString(kind), "public static final");
            }
        }
    }

    private static void classes() {
        check.dueText("the class", Modifier.toString(LoafMarket.class.getModifiers()), "public final");
        check.dueTrue("no class above", LoafMarket.class.getSuperclass() == Object.class);
        Class<?>[] inside = LoafMarket.class.getDeclaredClasses();
        check.dueTrue("at most twelve classes", inside.length < 12);
        for (Class<?> type : inside) {
            check.dueTrue(type + " is static", Modifier.isStatic(type.getModifiers()));
            check.dueTrue(type + " is not public", !Modifier.isPublic(type.getModifiers()));
            long fields = Arrays.stream(type.getDeclaredFields()).filter(f -> !Modifier.isStatic(f.getModifiers())).count();
            check.dueTrue(type + " has at most twenty fields", fields <= 20);
        }
    }

    private static void source() throws Exception {
        String text = Files.readString(Path.of("src/main/java/LoafMarket.java"));
        check.dueTrue("signs 1 to 127 alone", text.chars().allMatch(c -> c > 0 && c < 128));
        String[] banned = {"catch", "finally", "synchronized", "assert ", "->", "::", "instanceof", "package ", "java.util.*",
            "Math.", "System.out", "System.nanoTime", "Random", "Thread", "new ArrayList", "@Override"};
        for (String word : banned) {
            check.dueTrue("the program does without " + word, !text.contains(word));
        }
        long imports = text.lines().filter(line -> line.startsWith("import ")).count();
        check.due("imports", imports, 1);
        String close = "";
        int length = 0;
        for (String line : text.lines().collect(Collectors.toList())) {
            // A method begins at one of the two depths at which classes hold members.
            if (close.isEmpty() && line.matches("( {4}| {8})[a-zA-Z].*\\) (throws .*)?\\{")) {
                close = line.substring(0, line.length() - line.stripLeading().length()) + "}";
                length = 0;
            }
            length++;
            check.dueTrue("a method of at most sixty lines, at " + line, close.isEmpty() || length <= 60);
            if (line.equals(close)) {
                close = "";
            }
        }
        check.dueTrue("the last method has an end", close.isEmpty());
    }

    /** Each promise and each section is named by a part of an edge test. */
    private static void everyPromiseHasATest() throws Exception {
        StringBuilder named = new StringBuilder(" ");
        for (String part : new String[] {"Input", "Question", "Auction", "Hour", "Change"}) {
            String text = Files.readString(Path.of("src/test/java/Edge" + part + "Test.java"));
            text.lines().filter(line -> line.contains("check.part(\"")).forEach(line -> named.append(line.split("\"")[1]).append(' '));
        }
        for (int promise = 1; promise <= 65; promise++) {
            check.dueTrue("promise " + promise + " has a test", named.indexOf(" P" + promise + " ") >= 0);
        }
        for (int section = 1; section <= 8; section++) {
            check.dueTrue("section " + section + " has a test", named.indexOf(" S" + section + " ") >= 0);
        }
    }
}
