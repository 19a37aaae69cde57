import java.util.ArrayList;
import java.util.LinkedHashMap;
import java.util.List;
import java.util.Map;
import java.util.function.ToIntFunction;

/** The edges that the document names under reasons, changes, codes of calls, details and constants. */
final class RulesEdges {
    private static final int NONE = CartArguments.NONE;
    private static final int BAD = CartArguments.BAD;
    private static final int REFUSED = CartArguments.REFUSED;
    private static final int NOTHING = CartArguments.NOTHING;

    private RulesEdges() {
    }

    static void all() {
        firstReason();
        firstTenReasons();
        lastReasons();
        behindTwelve();
        changes();
        latestEight();
        neitherUndoneNorSaved();
        errorsLeaveAll();
        refusedTextsLeaveAll();
        firstError();
        floatOfNoCart();
        unlikePlaces();
        bestOfSixPlaces();
        swapOfEmptyPlaces();
        couldAsLoadedNow();
        cheapestOfWornOut();
        constants();
    }

    private static void of(String sentence) {
        Sentences.of(0, sentence);
    }

    private static void dueReason(CartArguments x, String call, int got, int reason, int detail) {
        Check.due(call, got, REFUSED);
        Check.dueText(call + " reasons", Built.reasons(x), reason + " " + detail + " -4 -4");
    }

    private static void firstReason() {
        of("Something is refused for the first that applies of the reasons that its method names, in the order in which"
                + " it names them, with a detail:");
        CartArguments x = Built.cart(9, 4, 0, 0, 0, 0, 0, 4);
        x.conclusion(5);
        dueReason(x, "2 ahead of 3", x.load(0, 0, 6), 2, 0);
        dueReason(x, "2 ahead of 4", x.load(0, 0, 0), 2, 0);
        dueReason(x, "2 ahead of 4 and 5", x.load(1, 0, 6), 2, 0);
        dueReason(x, "3 ahead of 4 and 5", x.load(2, 0, 0), 3, 0);
        dueReason(x, "3 ahead of 5", x.load(2, 0, 1), 3, 1);
        dueReason(x, "4 ahead of 5", x.load(2, 0, 6), 4, 1);
        x.unload(1);
        dueReason(x, "5 at last", x.load(2, 0, 6), 5, 1);
        x.premise(1);
        dueReason(x, "3 for a premise on an empty top", x.load(3, 0, 6), 3, 6);
        x.load(1, 0, 6);
        dueReason(x, "3 ahead of 4 for a premise", x.load(3, 0, 6), 3, 6);
        dueReason(x, "6", x.unload(2), 6, 2);
        CartArguments y = Built.worn();
        dueReason(y, "9 ahead of 10", y.trip(0, 1), 9, 1);
        dueReason(y, "10 at last", y.trip(0, 0), 10, 0);
        y.unload(1);
        dueReason(y, "8 ahead of 10", y.trip(0, 0), 8, 1);
        y.road(1, 1, 1);
        dueReason(y, "8 ahead of 9 and 10", y.trip(0, 2), 8, 1);
        CartArguments z = Built.cart(9, 4);
        Check.due("12 of the first command", Check.say(z, "swap 0 11;cart 0"), REFUSED);
        Check.dueText("12 of the first command, reasons", Built.reasons(z), "12 0 7 1");
        dueReason(z, "13 of the first command", Check.say(z, "cart 0;swap 0 11"), 13, 0);
    }

    private static void firstTenReasons() {
        of("1, there are 12 things, 4 carts or 5 roads: this number;");
        CartArguments x = Built.crowded();
        dueReason(x, "premise", x.premise(1), 1, 12);
        dueReason(x, "cart", x.cart(1), 1, 4);
        dueReason(x, "road", x.road(1, 1, 1), 1, 5);
        dueReason(x, "conclusion", x.conclusion(1), 1, 12);
        of("2, the thing is on a cart: the cart;");
        x.load(0, 3, 2);
        dueReason(x, "on cart 3", x.load(0, 1, 1), 2, 3);
        dueReason(x, "on cart 3, there", x.load(0, 3, 1), 2, 3);
        of("3, the place does not take such a thing: the place;");
        dueReason(x, "a premise at 6", x.load(2, 1, 6), 3, 6);
        for (int place = 0; place < 6; place++) {
            dueReason(x, "a conclusion at " + place, x.load(1, 1, place), 3, place);
        }
        of("4, another thing is at the place: it;");
        dueReason(x, "thing 0 is there", x.load(2, 3, 2), 4, 0);
        Check.due("not on the other cart", x.load(2, 2, 2), 9);
        dueReason(x, "thing 2 is there", x.load(4, 2, 2), 4, 2);
        x.load(11, 2, 6);
        dueReason(x, "thing 11 is there", x.load(9, 2, 6), 4, 11);
        of("5, the conclusion would weigh more than the premises on its cart: by how much;");
        dueReason(x, "unload of all", x.unload(2), 5, 9);
        dueReason(x, "load above nothing", x.load(9, 1, 6), 5, 9);
        CartArguments y = Built.cart(9, 9, 9, 9, 9, 9, 8);
        y.conclusion(54);
        dueReason(y, "by 1", y.load(6, 0, 6), 5, 1);
        CartArguments z = Built.cart(9);
        z.conclusion(54);
        dueReason(z, "by 54", z.load(0, 0, 6), 5, 54);
        of("6, the thing is on no cart: the thing;");
        dueReason(x, "thing 10", x.unload(10), 6, 10);
        dueReason(z, "thing 0", z.unload(0), 6, 0);
        of("7, both places are one: the place;");
        for (int place = 0; place < 6; place++) {
            dueReason(x, "place " + place, x.swap(2, place, place), 7, place);
        }
    }

    private static void lastReasons() {
        of("8, no conclusion is on the cart: how many premises are;");
        CartArguments x = Built.full(9);
        x.road(99, 1, 1);
        x.cart(9);
        x.unload(6);
        dueReason(x, "six premises", x.trip(0, 0), 8, 6);
        dueReason(x, "no premise", x.trip(1, 0), 8, 0);
        of("9, the cart weighs more than the limit: by how much;");
        x.load(6, 0, 6);
        x.road(1, 1, 1);
        dueReason(x, "by 9", x.trip(0, 0), 9, 9);
        dueReason(x, "by 107", x.trip(0, 1), 9, 107);
        CartArguments y = Built.cart(60, 5, 0, 0, 0, 0, 0, 5);
        y.road(9, 1, 1);
        y.road(10, 1, 1);
        dueReason(y, "by 1", y.trip(0, 0), 9, 1);
        Check.due("just as heavy", y.trip(0, 1), 0);
        of("10, an axle is worn out: 0 for the front one, or else 1;");
        CartArguments front = Built.worn();
        dueReason(front, "the front one", front.trip(0, 0), 10, 0);
        CartArguments rear = Built.cart(10, 0, 0, 0, 0, 0, 9, 9);
        rear.road(18, 9, 3);
        CartArguments both = Built.cart(1, 0, 0, 5, 5, 0, 0, 10);
        both.road(20, 9, 3);
        for (int trips = 0; trips < 5; trips++) {
            Check.due("trip", rear.trip(0, 0), 1);
            Check.due("trip of both", both.trip(0, 0), 2);
        }
        dueReason(rear, "the rear one", rear.trip(0, 0), 10, 1);
        Check.due("the sixth trip of both", both.trip(0, 0), 2);
        Check.due("both are worn out", both.account(8), 2);
        dueReason(both, "the front one of both", both.trip(0, 0), 10, 0);
        of("11, no axle has any wear: the cart;");
        dueReason(x, "cart 1", x.grease(1), 11, 1);
        dueReason(x, "cart 0", x.grease(0), 11, 0);
        of("12, a command of a text is refused: its number, from 0; 13, a command of a text would return another code:"
                + " its number, from 0.");
        String ahead = "cart 1;unload 0;load 0 05;premise 1;swap 0 50;";
        int[] ends = {0, 7, 16, 26, 36, 46};
        for (int number = 0; number < ends.length; number++) {
            CartArguments z = Built.cart(9, 5);
            String start = ahead.substring(0, ends[number]);
            Check.due("12", Check.say(z, start + "swap 0 00"), REFUSED);
            Check.dueText("12 of command " + number, Built.reasons(z), "12 " + number + " 7 0");
            dueReason(z, "13, bad", Check.say(z, start + "cart 0"), 13, number);
            dueReason(z, "13, none", Check.say(z, start + "trip 9 9"), 13, number);
        }
        CartArguments last = new CartArguments();
        Check.due("12", Check.say(last, "cart 9;cart 9;cart 9;cart 9;premise 1;premise 1;swap 0 00"), REFUSED);
        Check.dueText("12 of command 6", Built.reasons(last), "12 6 7 0");
    }

    private static void behindTwelve() {
        of("Behind 12 stands the reason of the command.");
        CartArguments x = Built.rich();
        Map<String, String> behind = new LinkedHashMap<>();
        behind.put("cart 1;cart 1;cart 1", "12 2 1 4");
        behind.put("load 0 00", "12 0 2 0");
        behind.put("load 5 06", "12 0 3 6");
        behind.put("load 5 01", "12 0 4 0");
        behind.put("load 4 16", "12 0 5 5");
        behind.put("unload 5", "12 0 6 5");
        behind.put("swap 0 33", "12 0 7 3");
        behind.put("trip 1 0", "12 0 8 1");
        behind.put("trip 0 1", "12 0 9 1");
        behind.put("grease 1", "12 0 11 1");
        behind.put("cart 61", "13 0 -4 -4");
        behind.put("swap 2 33", "13 0 -4 -4");
        for (String text : behind.keySet()) {
            Check.due(text, Check.say(x, text), REFUSED);
            Check.dueText(text + " reasons", Built.reasons(x), behind.get(text));
        }
        String[] adding = {"premise 1", "conclusion 1", "cart 1", "road 1 1 1"};
        String[] full = {"12 0 1 12", "12 0 1 12", "12 0 1 4", "12 0 1 5"};
        String[] bad = {"premise 0", "conclusion 55", "cart 0", "road 1 0 1"};
        CartArguments z = Built.crowded();
        for (int index = 0; index < adding.length; index++) {
            Check.due(adding[index], Check.say(z, adding[index]), REFUSED);
            Check.dueText(adding[index] + " reasons", Built.reasons(z), full[index]);
            dueReason(z, bad[index], Check.say(z, bad[index]), 13, 0);
        }
        CartArguments y = Built.worn();
        Check.due("trip 0 0", Check.say(y, "grease 0;trip 0 0"), 2);
        y.undo();
        Check.due("trip 0 0", Check.say(y, "trip 0 0"), REFUSED);
        Check.dueText("trip 0 0 reasons", Built.reasons(y), "12 0 10 0");
        dueReason(y, "none behind the next", y.swap(0, 1, 1), 7, 1);
    }

    /** Each change is undone alone, so that it has to be one. */
    private static void changes() {
        of("The changes are the successful calls of premise, conclusion, cart, road, load, unload, swap, trip, grease and"
                + " read, also those by which nothing is different.");
        List<ToIntFunction<CartArguments>> changes = new ArrayList<>();
        changes.add(x -> x.premise(3));
        changes.add(x -> x.conclusion(3));
        changes.add(x -> x.cart(3));
        changes.add(x -> x.road(3, 3, 3));
        changes.add(x -> x.load(5, 0, 3));
        changes.add(x -> x.unload(2));
        changes.add(x -> x.swap(0, 1, 5));
        changes.add(x -> x.swap(0, 3, 4));
        changes.add(x -> x.swap(1, 0, 5));
        changes.add(x -> x.trip(0, 0));
        changes.add(x -> x.grease(0));
        changes.add(x -> Check.say(x, "swap 0 15;swap 0 51"));
        changes.add(x -> Check.say(x, "swap 0 34"));
        changes.add(x -> Check.say(x, "cart 3;premise 5;trip 0 0"));
        for (int index = 0; index < changes.size(); index++) {
            CartArguments x = withOneChange();
            CartArguments y = withOneChange();
            Check.due("change " + index + " is successful", changes.get(index).applyAsInt(x) >= 0 ? 1 : 0, 1);
            Check.due("change " + index, x.account(12), 2);
            Check.due("change " + index + " undone", x.undo(), 1);
            Built.dueAlike("change " + index, x, y);
        }
        CartArguments x = new CartArguments();
        x.append('c');
        x.write(0);
        x.save();
        x.writeRoads();
        x.clear();
        Check.due("no other call is one", x.account(12), 0);
    }

    private static CartArguments withOneChange() {
        CartArguments x = Built.rich();
        x.save();
        x.restore();
        x.premise(7);
        return x;
    }

    private static void latestEight() {
        of("The latest 8 can be undone.");
        undoOfTheLast();
        CartArguments x = Built.cart(9, 1);
        for (int number = 3; number < 30; number++) {
            Check.due("changes after " + number, x.account(12), Math.min(8, number));
            Check.due("swap", x.swap(0, 0, 5), 10);
            Check.due("refused", x.swap(0, 0, 0), REFUSED);
        }
        for (int left = 7; left >= 0; left--) {
            Check.due("undo of a swap", x.undo(), left);
            Check.due("where the premise is", x.at(0, left % 2 == 0 ? 5 : 0), 0);
        }
        Check.due("undo of no more swaps", x.undo(), NOTHING);
        CartArguments y = new CartArguments();
        for (int number = 0; number < 9; number++) {
            Check.due("premise", y.premise(number % 9 + 1), number);
        }
        for (int left = 7; left >= 0; left--) {
            Check.due("undo", y.undo(), left);
            Check.due("things", y.account(0), left + 1);
        }
        Check.due("the ninth stays", y.undo(), NOTHING);
        Check.due("the ninth stays there", y.account(0), 1);
        CartArguments z = new CartArguments();
        for (int number = 0; number < 8; number++) {
            z.premise(1);
        }
        for (int left = 7; left >= 0; left--) {
            Check.due("undo of all", z.undo(), left);
        }
        Check.due("all undone", z.account(0), 0);
        z.premise(2);
        Check.due("one again", z.account(12), 1);
    }

    /** The last of all things, carts and roads. */
    private static void undoOfTheLast() {
        CartArguments x = Built.brimful();
        CartArguments y = Built.brimful();
        x.trip(3, 4);
        x.trip(2, 4);
        x.grease(3);
        x.swap(3, 1, 3);
        x.unload(11);
        x.unload(10);
        x.unload(9);
        x.load(10, 3, 0);
        for (int left = 7; left >= 0; left--) {
            Check.due("undo of the last", x.undo(), left);
        }
        Check.dueText("all as before", Built.things(x), Built.things(y));
    }

    private static void neitherUndoneNorSaved() {
        of("The input, the fault position, the reasons and the written line are neither undone nor saved, and stay.");
        CartArguments x = Built.rich();
        Check.type(x, "cart 7");
        String kept = Built.kept(x);
        for (int step = 0; step < 9; step++) {
            x.undo();
            Check.dueText("undo " + step, Built.kept(x), kept);
        }
        x.save();
        Check.dueText("save", Built.kept(x), kept);
        x.restore();
        Check.dueText("restore", Built.kept(x), kept);
        Check.due("the input is still there", x.read(), 1);
        x.undo();
        Check.due("a text undone is not input again", x.account(11), 0);
        CartArguments y = new CartArguments();
        y.save();
        y.premise(4);
        y.cart(4);
        y.write(0);
        y.swap(0, 1, 1);
        Check.say(y, "x");
        Check.say(y, "cart 5");
        Check.type(y, "cart 6");
        String later = Built.kept(y);
        Check.due("restore of what was saved before", y.restore(), 0);
        Check.dueText("they stay", Built.kept(y), later);
        Check.due("the input is read then", y.read(), 1);
        Check.due("cart of the text", y.cartOf(0, 0), 6);
    }

    private static void errorsLeaveAll() {
        of("A call that returns an error leaves everything as it was, except that read empties the input, and that"
                + " reasons and fault positions are kept.");
        List<ToIntFunction<CartArguments>> calls = new ArrayList<>();
        addErrors(calls);
        addRefused(calls);
        for (int index = 0; index < calls.size(); index++) {
            CartArguments x = Built.rich();
            CartArguments y = Built.rich();
            Check.type(x, "cart");
            Check.type(y, "cart");
            int answer = calls.get(index).applyAsInt(x);
            Check.due("call " + index + " is an error", answer < 0 ? 1 : 0, 1);
            if (answer == REFUSED) {
                Check.dueText("call " + index, x.fault() + Check.line(x), y.fault() + Check.line(y));
                Check.due("call " + index + " input", x.account(11), y.account(11));
            } else {
                Check.dueText("call " + index, Built.kept(x), Built.kept(y));
            }
            Built.dueAlike("call " + index, x, y);
        }
    }

    private static void addErrors(List<ToIntFunction<CartArguments>> calls) {
        calls.add(x -> x.append((char) 31));
        calls.add(x -> x.append((char) 127));
        calls.add(x -> x.premise(0));
        calls.add(x -> x.premise(10));
        calls.add(x -> x.conclusion(0));
        calls.add(x -> x.conclusion(55));
        calls.add(x -> x.cart(0));
        calls.add(x -> x.cart(61));
        calls.add(x -> x.road(100, 1, 1));
        calls.add(x -> x.road(1, 10, 1));
        calls.add(x -> x.road(1, 1, 10));
        calls.add(x -> x.load(6, 0, 2));
        calls.add(x -> x.load(5, 2, 2));
        calls.add(x -> x.load(5, 0, 7));
        calls.add(x -> x.load(5, 0, -1));
        calls.add(x -> x.unload(6));
        calls.add(x -> x.unload(-1));
        calls.add(x -> x.swap(2, 0, 1));
        calls.add(x -> x.swap(0, 1, 6));
        calls.add(x -> x.swap(0, 6, 1));
        calls.add(x -> x.swap(0, -1, 1));
        calls.add(x -> x.trip(2, 0));
        calls.add(x -> x.trip(0, 2));
        calls.add(x -> x.grease(2));
        calls.add(x -> x.reason(2, true));
        calls.add(x -> x.write(2));
        calls.add(x -> x.thingOf(6, 0));
        calls.add(x -> x.cartOf(0, 8));
        calls.add(x -> x.at(0, 7));
        calls.add(x -> x.roadOf(2, 0));
        calls.add(x -> x.best(2));
        calls.add(x -> x.bestAgain(2));
        calls.add(x -> x.could(0, 2));
        calls.add(x -> x.cheapest(1));
        calls.add(x -> x.heaviest(6));
        calls.add(x -> x.fullest(2));
        calls.add(x -> x.written(99));
        calls.add(x -> x.account(13));
    }

    private static void addRefused(List<ToIntFunction<CartArguments>> calls) {
        calls.add(x -> x.load(0, 0, 2));
        calls.add(x -> x.load(5, 0, 6));
        calls.add(x -> x.load(5, 0, 1));
        calls.add(x -> x.load(4, 1, 6));
        calls.add(x -> x.unload(4));
        calls.add(x -> x.unload(0));
        calls.add(x -> x.unload(1));
        calls.add(x -> x.swap(0, 5, 5));
        calls.add(x -> x.trip(1, 0));
        calls.add(x -> x.trip(0, 1));
        calls.add(x -> x.grease(1));
    }

    private static void refusedTextsLeaveAll() {
        String[] texts = {
            "", "cart", "cart 5;", "premise 5;x", "cart 5;premise 5;cart 0", "unload 2;unload 1;swap 0 33",
            "cart 5;cart 5;cart 5", "load 5 00;trip 0 0;grease 0;grease 0", "road 1 1 1;trip 0 0;trip 0 1",
            "swap 0 15;swap 0 05;unload 9", "grease 0;trip 0 0;trip 2 0",
        };
        for (String text : texts) {
            CartArguments x = Built.rich();
            CartArguments y = Built.rich();
            int answer = Check.say(x, text);
            Check.due("\"" + text + "\" is an error", answer == BAD || answer == REFUSED ? 1 : 0, 1);
            Check.due("\"" + text + "\" empties the input", x.account(11), 0);
            Check.dueText("\"" + text + "\" line", Check.line(x), Check.line(y));
            if (answer == BAD) {
                Check.dueText("\"" + text + "\" reasons", Built.reasons(x), Built.reasons(y));
            } else {
                Check.due("\"" + text + "\" fault", x.fault(), y.fault());
            }
            Built.dueAlike("\"" + text + "\"", x, y);
        }
        CartArguments crowded = Built.crowded();
        CartArguments other = Built.crowded();
        crowded.premise(1);
        crowded.cart(1);
        crowded.road(1, 1, 1);
        Check.say(crowded, "load 0 00;conclusion 1");
        Built.dueAlike("crowded", crowded, other);
        CartArguments worn = Built.worn();
        worn.trip(0, 0);
        worn.could(0, 0);
        Built.dueAlike("worn", worn, Built.worn());
    }

    private static void firstError() {
        of("If several errors apply, the one that is named first is returned.");
        CartArguments x = Built.crowded();
        Check.due("premise, BAD ahead of REFUSED", x.premise(0), BAD);
        Check.due("conclusion, BAD ahead of REFUSED", x.conclusion(55), BAD);
        Check.due("cart, BAD ahead of REFUSED", x.cart(61), BAD);
        Check.due("road, BAD ahead of REFUSED", x.road(0, 1, 1), BAD);
        Check.due("no reason yet", x.reason(0, false), NOTHING);
        x.load(0, 0, 0);
        Check.due("load, NONE ahead of BAD", x.load(12, 0, 7), NONE);
        Check.due("load, NONE for the cart ahead of BAD", x.load(0, 4, 7), NONE);
        Check.due("load, NONE ahead of REFUSED", x.load(0, 4, 0), NONE);
        Check.due("load, BAD ahead of REFUSED", x.load(0, 0, 7), BAD);
        Check.due("swap, NONE ahead of BAD", x.swap(4, 6, 6), NONE);
        Check.due("swap, NONE ahead of REFUSED", x.swap(4, 1, 1), NONE);
        Check.due("swap, BAD ahead of REFUSED", x.swap(0, 6, 6), BAD);
        Check.due("swap, BAD ahead of REFUSED, below", x.swap(0, -1, -1), BAD);
        Check.due("trip, NONE ahead of REFUSED", x.trip(1, 5), NONE);
        Check.due("thingOf, NONE ahead of BAD", x.thingOf(12, 4), NONE);
        Check.due("cartOf, NONE ahead of BAD", x.cartOf(4, 8), NONE);
        Check.due("at, NONE ahead of BAD", x.at(4, 7), NONE);
        Check.due("at, BAD ahead of NOTHING", x.at(0, 7), BAD);
        Check.due("roadOf, NONE ahead of BAD", x.roadOf(5, 4), NONE);
        Check.due("cheapest, NONE ahead of NOTHING", x.cheapest(4), NONE);
        Check.due("reason, BAD ahead of NOTHING", x.reason(2, false), BAD);
        Check.due("still no reason", x.reason(0, false), NOTHING);
        Check.due("append, full and out of range", appendToFull((char) 31), BAD);
    }

    private static int appendToFull(char sign) {
        CartArguments x = new CartArguments();
        for (int length = 0; length < 60; length++) {
            x.append('x');
        }
        return x.append(sign);
    }

    private static void floatOfNoCart() {
        of("A call that returns a float returns -1.0f if there is no such cart.");
        CartArguments x = new CartArguments();
        for (int round = 0; round < 5; round++) {
            for (int rear = 0; rear < 2; rear++) {
                Check.dueExactly("axle of cart " + round, x.axle(round, rear == 1), -1.0f);
                Check.dueExactly("wear of cart " + round, x.wear(round, rear == 1), -1.0f);
                for (int wild : Built.WILD) {
                    Check.dueExactly("axle of cart " + wild, x.axle(wild, rear == 1), -1.0f);
                    Check.dueExactly("wear of cart " + wild, x.wear(wild, rear == 1), -1.0f);
                }
            }
            x.cart(9);
            if (round < 4) {
                Check.dueExactly("axle of the new cart", x.axle(round, true), 0.0f);
                Check.dueExactly("wear of the new cart", x.wear(round, true), 0.0f);
            }
        }
    }

    private static void unlikePlaces() {
        of("Premises on one cart are at unlike places.");
        CartArguments x = Built.cart(9, 1, 2, 3, 4, 5, 6);
        x.cart(9);
        x.premise(7);
        for (int place = 0; place < 6; place++) {
            dueReason(x, "a second one at " + place, x.load(6, 0, place), 4, place);
        }
        for (int one = 0; one < 6; one++) {
            for (int other = 0; other < 6; other++) {
                x.swap(0, one, other);
            }
        }
        int seen = 0;
        for (int place = 0; place < 6; place++) {
            seen |= 1 << x.at(0, place);
        }
        Check.due("each is there", seen, 63);
        Check.due("at the same place of another cart", x.load(6, 1, 0), 7);
    }

    private static void bestOfSixPlaces() {
        of("For the best balance the premises of a cart stand at any unlike places of the six, the conclusion stays.");
        dueBest("one cannot be in the middle", 14, 7);
        dueBest("two in the middle", 0, 0, 0, 0, 7, 7);
        dueBest("six alike", 0, 9, 9, 9, 9, 9, 9);
        dueBest("six with an odd rest", 2, 6, 5, 4, 3, 2, 1);
        dueBest("six, five of them heavy", 16, 9, 9, 9, 9, 9, 1);
        dueBest("five", 6, 9, 1, 1, 1, 1);
        dueBest("none", 0);
        dueBest("a heavy conclusion", 18, 9, 9, 9, 0, 0, 0, 27);
        dueBest("the same without it", 18, 9, 9, 9);
        CartArguments x = Built.cart(9, 9, 0, 0, 0, 0, 1, 10);
        Check.due("best", x.best(0), 8);
        Check.due("best again", x.bestAgain(0), 8);
        Check.due("nothing moved", x.at(0, 0) + 10 * x.at(0, 5) + 100 * x.at(0, 6), 210);
    }

    private static void dueBest(String what, int due, int... weights) {
        CartArguments x = Built.cart(9, weights);
        Built.addCart(x, 9, 0, 9);
        Check.due("best, " + what, x.best(0), due);
        Check.due("best again, " + what, x.bestAgain(0), due);
        Check.due("best of the other cart", x.best(1), 18);
        Check.due("best of the other cart again", x.bestAgain(1), 18);
        Check.due("best then, " + what, x.bestAgain(0), due);
    }

    private static void swapOfEmptyPlaces() {
        of("Two places can be swapped when one of them, or both, have no premise.");
        CartArguments x = Built.cart(9, 0, 9, 0, 0, 0, 0, 9);
        Check.due("from a premise to an empty place", x.swap(0, 1, 5), 90);
        Check.due("it is there", x.at(0, 5), 0);
        Check.due("it is gone", x.at(0, 1), NOTHING);
        Check.due("from an empty place to a premise", x.swap(0, 0, 5), 90);
        Check.due("it is there again", x.at(0, 0), 0);
        Check.due("both empty", x.swap(0, 1, 2), 90);
        Check.due("both empty, nothing there", x.at(0, 1) + x.at(0, 2), 2 * NOTHING);
        Check.due("the top stays", x.at(0, 6), 1);
        x.cart(9);
        Check.due("an empty cart", x.swap(1, 0, 5), 0);
        Check.due("cart 0 is as before", x.at(0, 0), 0);
        Check.due("both with a premise", Built.cart(9, 9, 1).swap(0, 0, 1), 64);
    }

    private static void couldAsLoadedNow() {
        of("How many trips a cart could make is told as it is loaded now.");
        CartArguments x = Built.worn();
        Check.due("worn out", x.could(0, 0), 0);
        x.undo();
        Check.due("one is left", x.could(0, 0), 1);
        x.grease(0);
        Check.due("greased", x.could(0, 0), 5);
        x.swap(0, 0, 2);
        Check.due("swapped, no axle creaks", x.could(0, 0), 12);
        couldWithEachAxle();
        x.unload(1);
        Check.due("without its conclusion", x.could(0, 0), 0);
        x.load(1, 0, 6);
        x.premise(1);
        x.load(2, 0, 0);
        Check.due("over the limit", x.could(0, 0), 0);
        Check.due("nothing was made", x.account(9), 4);
        Check.due("the reason stays", x.reason(0, false), NOTHING);
    }

    /** An axle that is nearly worn out allows one trip, however little it bears. */
    private static void couldWithEachAxle() {
        for (int round = 0; round < 2; round++) {
            CartArguments x = round == 0 ? Built.cart(10, 9, 0, 0, 0, 0, 0, 9) : Built.cart(10, 0, 0, 0, 0, 0, 9, 9);
            x.road(18, 9, 3);
            for (int trips = 0; trips < 4; trips++) {
                x.trip(0, 0);
            }
            x.swap(0, 0, 5);
            Check.due("the other axle bears more", x.could(0, 0), 1);
            Check.due("one trip", x.trip(0, 0), 1);
            dueReason(x, "no second one", x.trip(0, 0), 10, round);
        }
    }

    private static void cheapestOfWornOut() {
        of("For the cheapest road it does not matter whether axles are worn out.");
        CartArguments x = Built.worn();
        Check.due("an axle is worn out", x.account(8), 1);
        Check.due("cheapest", x.cheapest(0), 0);
        x.grease(0);
        Check.due("cheapest greased", x.cheapest(0), 0);
    }

    private static void constants() {
        of("`NONE = -1`: There is no such number.");
        Check.due("NONE", CartArguments.NONE, -1);
        of("`BAD = -2`: A number is out of range, or a text has a fault.");
        Check.due("BAD", CartArguments.BAD, -2);
        of("`REFUSED = -3`: It is refused for a reason.");
        Check.due("REFUSED", CartArguments.REFUSED, -3);
        of("`NOTHING = -4`: There is nothing of this kind.");
        Check.due("NOTHING", CartArguments.NOTHING, -4);
    }
}
