import java.util.ArrayDeque;
import java.util.ArrayList;
import java.util.Deque;
import java.util.HashSet;
import java.util.List;
import java.util.Set;
import java.util.regex.Matcher;
import java.util.regex.Pattern;

/**
 * A second program for the same document, with the Java library and without regard to cost, so that
 * answers can be compared. Its calls are made by name; a float or a double is answered as it is.
 */
final class Plain {
    private static final Pattern TEXT = pattern();
    private static final int REFUSED = -3;
    private static final int NOTHING = -4;

    private static final class Thing {
        boolean isConclusion;
        int weight;
    }

    private static final class Cart {
        int strength;
        Thing[] spots = new Thing[7];
        float[] wear = new float[2];
        int trips;
    }

    private static final class Road {
        int limit;
        int miles;
        int rate;
        int trips;
    }

    private static final class World {
        List<Thing> things = new ArrayList<>();
        List<Cart> carts = new ArrayList<>();
        List<Road> roads = new ArrayList<>();
        float tolls;
        int miles;

        World copy() {
            World world = new World();
            world.things.addAll(things);
            for (Cart cart : carts) {
                Cart twin = new Cart();
                twin.strength = cart.strength;
                twin.spots = cart.spots.clone();
                twin.wear = cart.wear.clone();
                twin.trips = cart.trips;
                world.carts.add(twin);
            }
            for (Road road : roads) {
                Road twin = new Road();
                twin.limit = road.limit;
                twin.miles = road.miles;
                twin.rate = road.rate;
                twin.trips = road.trips;
                world.roads.add(twin);
            }
            world.tolls = tolls;
            world.miles = miles;
            return world;
        }
    }

    private World world = new World();
    private World saved = null;
    private final Deque<World> before = new ArrayDeque<>();
    private String input = "";
    private String line = "";
    private int fault = NOTHING;
    private int[] reasons = {NOTHING, NOTHING, NOTHING, NOTHING};

    private static Pattern pattern() {
        String number = "[0-9][0-9]?";
        String command = "(premise [0-9]|conclusion N|cart N|road N [0-9] [0-9]|load N [0-9][0-9]|unload N"
                + "|swap [0-9] [0-9][0-9]|trip [0-9] [0-9]|grease [0-9])";
        command = command.replace("N", number);
        return Pattern.compile(command + "(;" + command + ")*");
    }

    double call(String name, int... a) {
        switch (name) {
            case "clear": {
                int count = world.things.size();
                world = new World();
                before.clear();
                return count;
            }
            case "append":
                if (a[0] < 32 || a[0] > 126 || input.length() == 60) {
                    return -2;
                }
                input += (char) a[0];
                return input.length();
            case "premise": case "conclusion": case "cart": case "road": case "load":
            case "unload": case "swap": case "trip": case "grease": {
                World old = world.copy();
                int answer = change(name, a);
                return keep(old, answer);
            }
            case "read": {
                World old = world.copy();
                return keep(old, read());
            }
            case "fault":
                return fault;
            case "reason":
                return a[0] < 0 || a[0] > 1 ? -2 : reasons[2 * a[0] + a[1]];
            case "undo":
                if (before.isEmpty()) {
                    return NOTHING;
                }
                world = before.removeLast();
                return before.size();
            case "save":
                saved = world.copy();
                return world.things.size();
            case "restore":
                if (saved == null) {
                    return NOTHING;
                }
                world = saved.copy();
                before.clear();
                return world.things.size();
            case "written":
                return a[0] >= 0 && a[0] < line.length() ? line.charAt(a[0]) : -1;
            default:
                return ask(name, a);
        }
    }

    private int keep(World old, int answer) {
        if (answer >= 0) {
            before.addLast(old);
            if (before.size() > 8) {
                before.removeFirst();
            }
        }
        return answer;
    }

    private int refuse(int reason, int detail) {
        reasons = new int[] {reason, detail, NOTHING, NOTHING};
        return REFUSED;
    }

    private int read() {
        String text = input;
        input = "";
        if (!TEXT.matcher(text).matches()) {
            fault = 0;
            while (fault < text.length() && canGoOn(text.substring(0, fault + 1))) {
                fault++;
            }
            return -2;
        }
        World old = world.copy();
        String[] commands = text.split(";");
        for (int number = 0; number < commands.length; number++) {
            int answer = say(commands[number]);
            if (answer == REFUSED) {
                world = old;
                reasons = new int[] {12, number, reasons[0], reasons[1]};
                return REFUSED;
            }
            if (answer < 0) {
                world = old;
                return refuse(13, number);
            }
        }
        return commands.length;
    }

    private static boolean canGoOn(String start) {
        Matcher matcher = TEXT.matcher(start);
        return matcher.matches() || matcher.hitEnd();
    }

    private int say(String command) {
        String[] words = command.split(" ");
        String last = words[words.length - 1];
        List<Integer> numbers = new ArrayList<>();
        for (int index = 1; index < words.length - 1; index++) {
            numbers.add(Integer.parseInt(words[index]));
        }
        if (words[0].equals("load") || words[0].equals("swap")) {
            numbers.add(last.charAt(0) - '0');
            numbers.add(last.charAt(1) - '0');
        } else {
            numbers.add(Integer.parseInt(last));
        }
        return change(words[0], numbers.stream().mapToInt(Integer::intValue).toArray());
    }

    private static boolean isOut(int number, int least, int most) {
        return number < least || number > most;
    }

    private int change(String name, int[] a) {
        switch (name) {
            case "premise":
                return addThing(false, a[0], 9);
            case "conclusion":
                return addThing(true, a[0], 54);
            case "cart": {
                if (isOut(a[0], 1, 60)) {
                    return -2;
                }
                if (world.carts.size() == 4) {
                    return refuse(1, 4);
                }
                Cart cart = new Cart();
                cart.strength = a[0];
                world.carts.add(cart);
                return world.carts.size() - 1;
            }
            case "road": {
                if (isOut(a[0], 1, 99) || isOut(a[1], 1, 9) || isOut(a[2], 0, 9)) {
                    return -2;
                }
                if (world.roads.size() == 5) {
                    return refuse(1, 5);
                }
                Road road = new Road();
                road.limit = a[0];
                road.miles = a[1];
                road.rate = a[2];
                world.roads.add(road);
                return world.roads.size() - 1;
            }
            case "load":
                return load(a[0], a[1], a[2]);
            case "unload":
                return unload(a[0]);
            case "swap":
                return swap(a[0], a[1], a[2]);
            case "trip":
                return trip(a[0], a[1]);
            default:
                return grease(a[0]);
        }
    }

    private int addThing(boolean isConclusion, int weight, int most) {
        if (isOut(weight, 1, most)) {
            return -2;
        }
        if (world.things.size() == 12) {
            return refuse(1, 12);
        }
        Thing thing = new Thing();
        thing.isConclusion = isConclusion;
        thing.weight = weight;
        world.things.add(thing);
        return world.things.size() - 1;
    }

    private boolean hasThing(int thing) {
        return thing >= 0 && thing < world.things.size();
    }

    private boolean hasCart(int cart) {
        return cart >= 0 && cart < world.carts.size();
    }

    private boolean hasRoad(int road) {
        return road >= 0 && road < world.roads.size();
    }

    private int number(Thing thing) {
        return thing == null ? NOTHING : world.things.indexOf(thing);
    }

    /** The cart and the place of a thing, as cart * 7 + place, NOTHING if it is on none. */
    private int spot(Thing thing) {
        for (int spot = 0; spot < 7 * world.carts.size(); spot++) {
            if (world.carts.get(spot / 7).spots[spot % 7] == thing) {
                return spot;
            }
        }
        return NOTHING;
    }

    private static int premises(Cart cart) {
        int sum = 0;
        for (int place = 0; place < 6; place++) {
            sum += cart.spots[place] == null ? 0 : cart.spots[place].weight;
        }
        return sum;
    }

    private static int premiseCount(Cart cart) {
        int count = 0;
        for (int place = 0; place < 6; place++) {
            count += cart.spots[place] == null ? 0 : 1;
        }
        return count;
    }

    private static int top(Cart cart) {
        return cart.spots[6] == null ? 0 : cart.spots[6].weight;
    }

    private static int weight(Cart cart) {
        return premises(cart) + top(cart);
    }

    private static int tenths(Cart cart, int axle) {
        int sum = 5 * top(cart);
        for (int place = 0; place < 6; place++) {
            int arm = axle == 1 ? place : 5 - place;
            sum += cart.spots[place] == null ? 0 : cart.spots[place].weight * 2 * arm;
        }
        return sum;
    }

    private static float bears(Cart cart, int axle) {
        return ((float) tenths(cart, axle)) / ((float) 10);
    }

    private static int creaks(Cart cart) {
        int count = 0;
        for (int axle = 0; axle < 2; axle++) {
            count += bears(cart, axle) > (float) cart.strength ? 1 : 0;
        }
        return count;
    }

    private static int imbalance(Cart cart) {
        int difference = tenths(cart, 0) - tenths(cart, 1);
        return difference < 0 ? -difference : difference;
    }

    private int load(int thing, int cart, int place) {
        if (!hasThing(thing) || !hasCart(cart)) {
            return -1;
        }
        if (isOut(place, 0, 6)) {
            return -2;
        }
        Thing it = world.things.get(thing);
        Cart on = world.carts.get(cart);
        if (spot(it) != NOTHING) {
            return refuse(2, spot(it) / 7);
        }
        if (it.isConclusion ? place < 6 : place == 6) {
            return refuse(3, place);
        }
        if (on.spots[place] != null) {
            return refuse(4, number(on.spots[place]));
        }
        if (it.isConclusion && it.weight > premises(on)) {
            return refuse(5, it.weight - premises(on));
        }
        on.spots[place] = it;
        return weight(on);
    }

    private int unload(int thing) {
        if (!hasThing(thing)) {
            return -1;
        }
        int spot = spot(world.things.get(thing));
        if (spot == NOTHING) {
            return refuse(6, thing);
        }
        Cart from = world.carts.get(spot / 7);
        Thing it = from.spots[spot % 7];
        from.spots[spot % 7] = null;
        if (top(from) > premises(from)) {
            int excess = top(from) - premises(from);
            from.spots[spot % 7] = it;
            return refuse(5, excess);
        }
        return spot / 7;
    }

    private int swap(int cart, int one, int other) {
        if (!hasCart(cart)) {
            return -1;
        }
        if (isOut(one, 0, 5) || isOut(other, 0, 5)) {
            return -2;
        }
        if (one == other) {
            return refuse(7, one);
        }
        Cart on = world.carts.get(cart);
        Thing kept = on.spots[one];
        on.spots[one] = on.spots[other];
        on.spots[other] = kept;
        return imbalance(on);
    }

    private int trip(int cart, int road) {
        if (!hasCart(cart) || !hasRoad(road)) {
            return -1;
        }
        Cart on = world.carts.get(cart);
        Road over = world.roads.get(road);
        if (on.spots[6] == null) {
            return refuse(8, premiseCount(on));
        }
        if (weight(on) > over.limit) {
            return refuse(9, weight(on) - over.limit);
        }
        for (int axle = 0; axle < 2; axle++) {
            if (on.wear[axle] >= 1) {
                return refuse(10, axle);
            }
        }
        float toll = (float) top(on) * (float) over.rate;
        toll = toll * 0.25f;
        world.tolls = world.tolls + toll;
        for (int axle = 0; axle < 2; axle++) {
            float added = bears(on, axle) * (float) over.miles;
            added = added * 0.001f;
            if (bears(on, axle) > (float) on.strength) {
                added = added * 2f;
            }
            on.wear[axle] = on.wear[axle] + added;
        }
        on.trips++;
        over.trips++;
        world.miles += over.miles;
        return creaks(on);
    }

    private int grease(int cart) {
        if (!hasCart(cart)) {
            return -1;
        }
        Cart on = world.carts.get(cart);
        if (on.wear[0] == 0 && on.wear[1] == 0) {
            return refuse(11, cart);
        }
        int worn = (on.wear[0] >= 1 ? 1 : 0) + (on.wear[1] >= 1 ? 1 : 0);
        on.wear = new float[2];
        return worn;
    }

    private double ask(String name, int[] a) {
        switch (name) {
            case "thingOf":
                return thingOf(a[0], a[1]);
            case "roadOf":
                return roadOf(a[0], a[1]);
            case "tolls":
                return world.tolls;
            case "heaviest":
                return heaviest(a[0]);
            case "fullest":
                return fullest(a[0]);
            case "writeRoads":
                return writeRoads();
            case "isWell":
                return 1;
            case "meanWeight":
                return world.things.stream().mapToInt(t -> t.weight).average().orElse(0.0);
            case "creakShare":
                return creakShare();
            case "account":
                return account(a[0]);
            case "axle": case "wear":
                return hasCart(a[0]) ? askCart(name, world.carts.get(a[0]), a) : -1.0f;
            default:
                return hasCart(a[0]) ? askCart(name, world.carts.get(a[0]), a) : -1;
        }
    }

    private double askCart(String name, Cart cart, int[] a) {
        switch (name) {
            case "cartOf": {
                int[] numbers = {cart.strength, premiseCount(cart), premises(cart), number(cart.spots[6]),
                    weight(cart), cart.trips, imbalance(cart), creaks(cart)};
                return isOut(a[1], 0, 7) ? -2 : numbers[a[1]];
            }
            case "at":
                return isOut(a[1], 0, 6) ? -2 : number(cart.spots[a[1]]);
            case "tenths": case "tenthsAgain":
                return tenths(cart, a[1]);
            case "axle":
                return bears(cart, a[1]);
            case "wear":
                return cart.wear[a[1]];
            case "best": case "bestAgain":
                return best(cart);
            case "could":
                return hasRoad(a[1]) ? could(a[0], a[1]) : -1;
            case "takes":
                return world.roads.stream().filter(r -> r.limit >= weight(cart))
                        .mapToInt(r -> 1 << world.roads.indexOf(r)).sum();
            case "cheapest":
                return cheapest(cart);
            case "write":
                return write(cart);
            default:
                throw new IllegalArgumentException(name);
        }
    }

    /** Goes through all sums of set after set of (place mask, front tenths less rear tenths). */
    private static int best(Cart cart) {
        Set<Integer> states = new HashSet<>();
        states.add(1000 * 64);
        for (int place = 0; place < 6; place++) {
            if (cart.spots[place] == null) {
                continue;
            }
            Set<Integer> next = new HashSet<>();
            for (int state : states) {
                for (int to = 0; to < 6; to++) {
                    if ((state & 1 << to) == 0) {
                        int lean = cart.spots[place].weight * (2 * (5 - to) - 2 * to);
                        next.add(state + (1 << to) + 64 * lean);
                    }
                }
            }
            states = next;
        }
        return states.stream().mapToInt(s -> Math.abs(s / 64 - 1000)).min().orElseThrow();
    }

    private int could(int cart, int road) {
        World kept = world;
        int[] keptReasons = reasons;
        world = world.copy();
        int trips = 0;
        while (trips < 99 && trip(cart, road) >= 0) {
            trips++;
        }
        world = kept;
        reasons = keptReasons;
        return trips;
    }

    private int cheapest(Cart cart) {
        Road least = null;
        for (Road road : world.roads) {
            if (cart.spots[6] == null || weight(cart) > road.limit) {
                continue;
            }
            if (least == null || road.rate < least.rate || road.rate == least.rate && road.miles < least.miles) {
                least = road;
            }
        }
        return least == null ? NOTHING : world.roads.indexOf(least);
    }

    private int thingOf(int thing, int what) {
        if (!hasThing(thing)) {
            return -1;
        }
        Thing it = world.things.get(thing);
        int spot = spot(it);
        switch (what) {
            case 0:
                return it.isConclusion ? 1 : 0;
            case 1:
                return it.weight;
            case 2:
                return spot == NOTHING ? NOTHING : spot / 7;
            case 3:
                return spot == NOTHING ? NOTHING : spot % 7;
            default:
                return -2;
        }
    }

    private int roadOf(int road, int what) {
        if (!hasRoad(road)) {
            return -1;
        }
        Road it = world.roads.get(road);
        int[] numbers = {it.limit, it.miles, it.rate, it.trips};
        return isOut(what, 0, 3) ? -2 : numbers[what];
    }

    private int heaviest(int place) {
        List<Thing> sorted = new ArrayList<>(world.things);
        sorted.sort((s, t) -> s.weight != t.weight ? t.weight - s.weight : Boolean.compare(s.isConclusion, t.isConclusion));
        return hasThing(place) ? number(sorted.get(place)) : -1;
    }

    private int fullest(int place) {
        List<Cart> sorted = new ArrayList<>(world.carts);
        sorted.sort((c, d) -> weight(c) != weight(d) ? weight(d) - weight(c) : imbalance(c) - imbalance(d));
        return hasCart(place) ? world.carts.indexOf(sorted.get(place)) : -1;
    }

    private int write(Cart cart) {
        List<String> spots = new ArrayList<>();
        for (int place = 0; place < 6; place++) {
            spots.add(cart.spots[place] == null ? "." : "" + number(cart.spots[place]));
        }
        line = world.carts.indexOf(cart) + "[" + String.join(",", spots) + "]";
        line += cart.spots[6] == null ? "" : "^" + number(cart.spots[6]);
        return line.length();
    }

    private int writeRoads() {
        List<String> roads = new ArrayList<>();
        for (Road road : world.roads) {
            roads.add(road.limit + "*" + road.miles + ":" + road.rate);
        }
        line = String.join(" ", roads);
        return line.length();
    }

    private float creakShare() {
        int count = world.carts.stream().mapToInt(Plain::creaks).sum();
        return world.carts.isEmpty() ? 0.0f : (float) count / (float) (2 * world.carts.size());
    }

    private int account(int what) {
        int conclusions = (int) world.things.stream().filter(t -> t.isConclusion).count();
        int worn = 0;
        for (Cart cart : world.carts) {
            worn += (cart.wear[0] >= 1 ? 1 : 0) + (cart.wear[1] >= 1 ? 1 : 0);
        }
        int[] numbers = {
            world.things.size(), world.things.size() - conclusions, conclusions,
            (int) world.things.stream().filter(t -> spot(t) != NOTHING).count(),
            world.carts.size(), world.roads.size(),
            world.carts.stream().mapToInt(Plain::weight).sum(),
            world.carts.stream().mapToInt(Plain::creaks).sum(), worn,
            world.roads.stream().mapToInt(r -> r.trips).sum(), world.miles, input.length(), before.size(),
        };
        return isOut(what, 0, 12) ? -2 : numbers[what];
    }
}
