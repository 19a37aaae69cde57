import java.util.TreeMap;

/** Long runs of calls with numbers from a fixed sequence, compared with the second program, Plain. */
public final class RunsTest {
    private static final int RUNS = 3000;
    private static final int CALLS = 512;

    private static final String[] QUERIES = {
        "fault", "reason", "reason", "thingOf", "thingOf", "cartOf", "cartOf", "at", "roadOf", "tenths", "tenthsAgain",
        "axle", "wear", "wear", "tolls", "best", "bestAgain", "could", "takes", "cheapest", "heaviest", "fullest",
        "write", "writeRoads", "written", "isWell", "meanWeight", "creakShare", "account", "account",
    };
    private static final String[] CHANGES = {
        "premise", "conclusion", "cart", "road", "load", "load", "load", "load", "unload", "swap", "swap",
        "trip", "trip", "trip", "trip", "trip", "grease",
    };
    private static final String[] WORDS = {
        "premise", "conclusion", "cart", "road", "load", "load", "unload", "swap", "trip", "trip", "grease",
    };

    private static long seed = 20261119L;
    private static int calls = 0;
    private static CartArguments one;
    private static Plain other;
    private static String run = "";
    private static final TreeMap<String, Integer> SEEN = new TreeMap<>();

    private RunsTest() {
    }

    public static void main(String[] args) {
        for (int number = 0; number < RUNS && Check.wrongSoFar() == 0; number++) {
            makeRun(number);
        }
        if (System.getenv("RUNS_SHOW") != null) {
            SEEN.forEach((what, count) -> System.out.println(what + ": " + count));
        }
        dueSeen();
        Check.end();
    }

    /** Each reason has to come about, or else the runs would look at less than they seem to. */
    private static void dueSeen() {
        for (int reason = 1; reason <= 13; reason++) {
            Check.due("runs with reason " + reason, SEEN.containsKey("reason " + reason) ? 1 : 0, 1);
            if (reason <= 11) {
                Check.due("runs with reason behind " + reason, SEEN.containsKey("behind " + reason) ? 1 : 0, 1);
            }
        }
    }

    private static int random(int bound) {
        seed = seed * 6364136223846793005L + 1442695040888963407L;
        return (int) Long.remainderUnsigned(seed >>> 33, bound);
    }

    /** Mostly from least to most, now and then just beyond, seldom far beyond. */
    private static int about(int least, int most) {
        int kind = random(90);
        if (kind == 0) {
            return random(2) == 0 ? Integer.MIN_VALUE + random(3) : Integer.MAX_VALUE - random(3);
        }
        return kind < 3 ? least - 1 : kind < 5 ? most + 1 : least + random(most - least + 1);
    }

    private static void makeRun(int number) {
        one = new CartArguments();
        other = new Plain();
        calls = 0;
        run = "";
        if (number % 2 == 0) {
            makeFullYard();
        }
        while (calls < CALLS && Check.wrongSoFar() == 0) {
            int kind = random(100);
            if (kind < 42) {
                makeChange(CHANGES[random(CHANGES.length)]);
            } else if (kind < 44) {
                sayText();
            } else if (kind < 49) {
                compare(random(60) == 0 ? "clear" : random(16) == 0 ? "restore" : random(3) == 0 ? "save" : "undo");
            } else if (kind < 50) {
                compare("append", random(5) == 0 ? random(65536) : about(32, 126) & 65535);
            } else {
                ask(QUERIES[random(QUERIES.length)]);
            }
        }
    }

    /** Some premises and a conclusion on each of the first carts, so that trips can be made. */
    private static void makeFullYard() {
        int carts = 1 + random(4);
        for (int cart = 0; cart < carts; cart++) {
            compare("cart", about(1, random(2) == 0 ? 20 : 60));
        }
        int roads = 1 + random(5);
        for (int road = 0; road < roads; road++) {
            compare("road", about(random(2) == 0 ? 1 : 40, 99), about(1, 9), about(0, 9));
        }
        int things = 3 + random(10);
        for (int thing = 0; thing < things; thing++) {
            boolean isTop = thing % 4 == 2;
            compare(isTop ? "conclusion" : "premise", about(1, isTop ? 5 + random(20) : 9));
            compare("load", thing, random(1 + random(carts)), isTop ? 6 : random(6));
        }
    }

    /** The first carts mostly, as more stands on them. */
    private static int someCart() {
        return random(3) == 0 ? about(0, 3) : random(2);
    }

    private static void makeChange(String name) {
        switch (name) {
            case "premise":
                compare(name, about(1, 9));
                break;
            case "conclusion":
                compare(name, about(1, random(2) == 0 ? 54 : 12));
                break;
            case "cart":
                compare(name, about(1, 60));
                break;
            case "road":
                compare(name, about(1, 99), about(1, 9), about(0, 9));
                break;
            case "load":
                compare(name, about(0, 11), someCart(), about(0, 6));
                break;
            case "unload":
                compare(name, about(0, 11));
                break;
            case "swap":
                compare(name, someCart(), about(0, 5), about(0, 5));
                break;
            case "trip":
                compare(name, someCart(), about(0, 4));
                break;
            default:
                compare(name, someCart());
        }
    }

    private static void sayText() {
        StringBuilder text = new StringBuilder();
        int commands = 1 + random(5);
        for (int number = 0; number < commands; number++) {
            text.append(number == 0 ? "" : ";").append(command(WORDS[random(WORDS.length)]));
        }
        if (random(4) == 0) {
            int at = random(text.length());
            String instead = random(2) == 0 ? "" : "" + " ;0123456789acdeilnoprstuwx".charAt(random(27));
            text.replace(at, at + random(2), instead);
        }
        if (random(8) == 0) {
            text.setLength(random(text.length() + 1));
        }
        for (int index = 0; index < text.length(); index++) {
            compare("append", text.charAt(index));
        }
        compare("read");
        compare("fault");
        compare("account", 0);
    }

    private static String number(int most) {
        int number = random(most + 1);
        return number < 10 && random(4) == 0 ? "0" + number : "" + number;
    }

    private static String command(String word) {
        switch (word) {
            case "premise": case "grease":
                return word + " " + (word.equals("grease") ? random(1 + random(4)) : random(10));
            case "conclusion":
                return word + " " + number(random(3) == 0 ? 60 : 9);
            case "cart":
                return word + " " + number(65);
            case "road":
                return word + " " + number(99) + " " + random(10) + " " + random(10);
            case "load":
                return word + " " + number(12) + " " + random(1 + random(4)) + random(random(9) == 0 ? 8 : 7);
            case "unload":
                return word + " " + number(12);
            case "swap":
                return word + " " + random(1 + random(4)) + " " + random(6) + random(6);
            default:
                return word + " " + random(1 + random(4)) + " " + random(5);
        }
    }

    private static void ask(String name) {
        switch (name) {
            case "reason":
                compare(name, about(0, 1), random(2));
                break;
            case "thingOf":
                compare(name, about(0, 11), about(0, 3));
                break;
            case "cartOf":
                compare(name, someCart(), about(0, 7));
                break;
            case "at":
                compare(name, someCart(), about(0, 6));
                break;
            case "roadOf":
                compare(name, about(0, 4), about(0, 3));
                break;
            case "tenths": case "tenthsAgain": case "axle": case "wear":
                compare(name, someCart(), random(2));
                break;
            case "could":
                compare(name, someCart(), about(0, 4));
                break;
            case "heaviest":
                compare(name, about(0, 11));
                break;
            case "written":
                compare(name, about(0, 24));
                break;
            case "account":
                compare(name, about(0, 12));
                break;
            case "fullest":
                compare(name, about(0, 3));
                break;
            case "best": case "bestAgain": case "takes": case "cheapest": case "write":
                compare(name, someCart());
                break;
            default:
                compare(name);
        }
    }

    private static void compare(String name, int... a) {
        if (calls >= CALLS || Check.wrongSoFar() > 0) {
            return;
        }
        calls++;
        String call = name + java.util.Arrays.toString(a);
        run = run + call + " ";
        double want = other.call(name, a);
        double got = call(name, a);
        note(name, want);
        Check.dueExactly(call, got, want);
        if (Check.wrongSoFar() > 0) {
            System.out.println("the run: " + run);
        }
    }

    private static void note(String name, double answer) {
        SEEN.merge(name + (answer < 0 ? " " + (int) answer : " well"), 1, Integer::sum);
        if (answer == CartArguments.REFUSED) {
            SEEN.merge("reason " + (int) other.call("reason", 0, 0), 1, Integer::sum);
            SEEN.merge("behind " + (int) other.call("reason", 1, 0), 1, Integer::sum);
        }
        if (name.startsWith("could") || name.startsWith("grease") || name.startsWith("trip")) {
            SEEN.merge(name + " " + (int) answer, 1, Integer::sum);
        }
    }

    private static double call(String name, int[] a) {
        switch (name) {
            case "clear": return one.clear();
            case "append": return one.append((char) a[0]);
            case "premise": return one.premise(a[0]);
            case "conclusion": return one.conclusion(a[0]);
            case "cart": return one.cart(a[0]);
            case "road": return one.road(a[0], a[1], a[2]);
            case "load": return one.load(a[0], a[1], a[2]);
            case "unload": return one.unload(a[0]);
            case "swap": return one.swap(a[0], a[1], a[2]);
            case "trip": return one.trip(a[0], a[1]);
            case "grease": return one.grease(a[0]);
            case "read": return one.read();
            case "fault": return one.fault();
            case "reason": return one.reason(a[0], a[1] == 1);
            case "thingOf": return one.thingOf(a[0], a[1]);
            case "cartOf": return one.cartOf(a[0], a[1]);
            case "at": return one.at(a[0], a[1]);
            case "roadOf": return one.roadOf(a[0], a[1]);
            case "tenths": return one.tenths(a[0], a[1] == 1);
            case "tenthsAgain": return one.tenthsAgain(a[0], a[1] == 1);
            default: return callMore(name, a);
        }
    }

    private static double callMore(String name, int[] a) {
        switch (name) {
            case "axle": return one.axle(a[0], a[1] == 1);
            case "wear": return one.wear(a[0], a[1] == 1);
            case "tolls": return one.tolls();
            case "best": return one.best(a[0]);
            case "bestAgain": return one.bestAgain(a[0]);
            case "could": return one.could(a[0], a[1]);
            case "takes": return one.takes(a[0]);
            case "cheapest": return one.cheapest(a[0]);
            case "heaviest": return one.heaviest(a[0]);
            case "fullest": return one.fullest(a[0]);
            case "write": return one.write(a[0]);
            case "writeRoads": return one.writeRoads();
            case "written": return one.written(a[0]);
            case "isWell": return one.isWell();
            case "meanWeight": return one.meanWeight();
            case "creakShare": return one.creakShare();
            case "account": return one.account(a[0]);
            case "undo": return one.undo();
            case "save": return one.save();
            case "restore": return one.restore();
            default: throw new IllegalArgumentException(name);
        }
    }
}
