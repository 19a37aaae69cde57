/** The edges that the document names ahead of its promises, sentence by sentence. */
final class TermsEdges {
    private static final int NONE = CartArguments.NONE;
    private static final int BAD = CartArguments.BAD;
    private static final int REFUSED = CartArguments.REFUSED;
    private static final int NOTHING = CartArguments.NOTHING;

    private TermsEdges() {
    }

    static void all() {
        lastCall();
        noHeavierConclusion();
        atMostTwelveThings();
        onACartOrNone();
        atMostFourCarts();
        sevenPlaces();
        weightOfACart();
        tenthsByPlace();
        loadOfAnAxle();
        creaking();
        wearAtFirst();
        wornOutFromOne();
        imbalance();
        atMostFiveRoads();
        tollOfATrip();
        wearOfATrip();
        floatsInOrder();
        atMostSixtySigns();
        oneCommandOrMore();
        oneDigitOrTwo();
        formsOfCommands();
        commandsAreCalls();
        nameNoEdge();
    }

    private static void of(String sentence) {
        Sentences.of(0, sentence);
    }

    private static void dueReason(CartArguments x, String call, int got, int reason, int detail) {
        Check.due(call, got, REFUSED);
        Check.due(call + " reason", x.reason(0, false), reason);
        Check.due(call + " detail", x.reason(0, true), detail);
    }

    private static void nameNoEdge() {
        Sentences.nameNoEdge(0,
                "All numbers are whole, but where they are told to be floats;",
                "divisions of whole numbers are rounded down.",
                "Things.", "Carts.", "Axles.", "Roads.", "Texts.", "Reasons.", "Changes.", "Codes of calls.",
                "Details.", "A cart has a front axle and a rear axle.", "The constants:");
    }

    private static void lastCall() {
        of("An object is used for at most 512 calls after it has been made; what later calls answer is free.");
        CartArguments x = Built.full(53);
        x.road(99, 9, 9);
        int made = 1 + 7 + 7 + 1;
        for (int call = made + 1; call < 512; call++) {
            if (call % 2 == 0) {
                Check.due("swap of call " + call, x.swap(0, 0, 5), 0);
            } else {
                Check.due("isWell of call " + call, x.isWell(), 1);
            }
        }
        Check.due("call 512", x.account(12), 8);
        CartArguments y = new CartArguments();
        for (int call = 1; call < 511; call++) {
            Check.due("append of call " + call, y.append('x'), call <= 60 ? call : BAD);
        }
        Check.due("call 511", y.read(), BAD);
        Check.due("call 512", y.fault(), 0);
    }

    private static void noHeavierConclusion() {
        of("No conclusion weighs more than the premises on its cart.");
        CartArguments x = Built.cart(9, 4, 0, 3);
        x.conclusion(8);
        x.conclusion(7);
        dueReason(x, "load of 8 above 7", x.load(2, 0, 6), 5, 1);
        Check.due("load of 7 above 7", x.load(3, 0, 6), 14);
        dueReason(x, "unload of 3 below 7", x.unload(1), 5, 3);
        x.premise(2);
        x.load(4, 0, 5);
        dueReason(x, "unload of 3, as 2 more are there", x.unload(1), 5, 1);
        x.premise(1);
        x.load(5, 0, 4);
        Check.due("unload of 3, as 3 more are there", x.unload(1), 0);
        Check.due("weight left", x.cartOf(0, 2), 7);
        Check.due("isWell at the edge", x.isWell(), 1);
        CartArguments y = Built.full(9);
        Check.due("54 above 54", y.cartOf(0, 4), 108);
        Check.due("isWell of 54 above 54", y.isWell(), 1);
        for (int thing = 0; thing < 6; thing++) {
            dueReason(y, "unload of 9 below 54", y.unload(thing), 5, 9);
        }
        CartArguments z = Built.cart(9);
        z.conclusion(1);
        dueReason(z, "load of 1 above nothing", z.load(0, 0, 6), 5, 1);
        Check.due("by text", Check.say(z, "premise 1;load 1 03;load 0 06"), 3);
        dueReason(z, "by text, unload", Check.say(z, "unload 1"), 12, 0);
    }

    private static void atMostTwelveThings() {
        of("At most 12 things are there, numbered from 0: premises with a weight from 1 to 9, and conclusions with a"
                + " weight from 1 to 54.");
        CartArguments x = new CartArguments();
        Check.due("thing 0 at first", x.thingOf(0, 0), NONE);
        for (int number = 0; number < 12; number++) {
            Check.due("thing " + number + " not yet", x.thingOf(number, 0), NONE);
            Check.due("thing", number < 9 ? x.premise(number + 1) : x.conclusion(6 * (number - 2)), number);
            Check.due("weight", x.thingOf(number, 1), number < 9 ? number + 1 : 6 * (number - 2));
            Check.due("kind", x.thingOf(number, 0), number < 9 ? 0 : 1);
        }
        dueReason(x, "premise 12", x.premise(1), 1, 12);
        dueReason(x, "conclusion 12", x.conclusion(1), 1, 12);
        dueReason(x, "premise 12 by text", Check.say(x, "premise 1"), 12, 0);
        Check.due("thing 12", x.thingOf(12, 0), NONE);
        Check.due("undo of thing 11", x.undo(), 7);
        Check.due("thing 11 again", x.conclusion(54), 11);
        CartArguments y = new CartArguments();
        int[] no = {0, -1, Integer.MIN_VALUE, Integer.MAX_VALUE, 256 + 5, 65536 + 5};
        for (int weight : no) {
            Check.due("premise(" + weight + ")", y.premise(weight), BAD);
            Check.due("conclusion(" + weight + ")", y.conclusion(weight), BAD);
        }
        Check.due("premise(10)", y.premise(10), BAD);
        Check.due("conclusion(55)", y.conclusion(55), BAD);
        Check.due("premise(1)", y.premise(1), 0);
        Check.due("premise(9)", y.premise(9), 1);
        Check.due("conclusion(1)", y.conclusion(1), 2);
        Check.due("conclusion(54)", y.conclusion(54), 3);
        Check.due("conclusion(10)", y.conclusion(10), 4);
    }

    private static void onACartOrNone() {
        of("A thing is on a cart or on none.");
        CartArguments x = Built.cart(9, 5);
        x.cart(9);
        Check.due("on cart 0", x.thingOf(0, 2), 0);
        dueReason(x, "on cart 1 too", x.load(0, 1, 0), 2, 0);
        Check.due("not on cart 1", x.at(1, 0), NOTHING);
        Check.due("unload", x.unload(0), 0);
        Check.due("on none", x.thingOf(0, 2), NOTHING);
        Check.due("on none, at no place", x.thingOf(0, 3), NOTHING);
        Check.due("not on cart 0", x.at(0, 0), NOTHING);
        Check.due("on cart 1", x.load(0, 1, 5), 5);
        Check.due("on cart 1, its cart", x.thingOf(0, 2), 1);
        dueReason(x, "on cart 0 too", x.load(0, 0, 0), 2, 1);
        Check.due("things on carts", x.account(3), 1);
    }

    private static void atMostFourCarts() {
        of("At most 4 carts are there, numbered from 0, each with a strength from 1 to 60.");
        CartArguments x = new CartArguments();
        Check.due("cart(0)", x.cart(0), BAD);
        Check.due("cart(61)", x.cart(61), BAD);
        Check.due("cart(-1)", x.cart(-1), BAD);
        Check.due("cart(least)", x.cart(Integer.MIN_VALUE), BAD);
        Check.due("cart(greatest)", x.cart(Integer.MAX_VALUE), BAD);
        Check.due("cart(256 + 9)", x.cart(256 + 9), BAD);
        int[] strengths = {1, 60, 2, 59};
        for (int number = 0; number < 4; number++) {
            Check.due("cart " + number + " not yet", x.cartOf(number, 0), NONE);
            Check.due("cart", x.cart(strengths[number]), number);
            Check.due("strength", x.cartOf(number, 0), strengths[number]);
        }
        dueReason(x, "cart 4", x.cart(1), 1, 4);
        dueReason(x, "cart 4 by text", Check.say(x, "cart 1"), 12, 0);
        Check.due("cart 4 is not there", x.cartOf(4, 0), NONE);
        x.undo();
        Check.due("cart 3 again", x.cart(9), 3);
    }

    private static void sevenPlaces() {
        of("A cart has the places 0 to 5, each of which takes a premise, and the place 6, its top, which takes a"
                + " conclusion.");
        for (int place = 0; place <= 6; place++) {
            CartArguments x = Built.cart(9, place == 0 ? 0 : 1, place == 0 ? 1 : 0);
            x.premise(1);
            x.conclusion(1);
            if (place < 6) {
                dueReason(x, "conclusion at " + place, x.load(2, 0, place), 3, place);
                Check.due("premise at " + place, x.load(1, 0, place), 2);
                Check.due("at " + place, x.at(0, place), 1);
            } else {
                dueReason(x, "premise at 6", x.load(1, 0, place), 3, 6);
                Check.due("conclusion at 6", x.load(2, 0, place), 2);
                Check.due("at 6", x.at(0, place), 2);
            }
            Check.due("load at 7", x.load(place < 6 ? 2 : 1, 0, 7), BAD);
            Check.due("load at -1", x.load(place < 6 ? 2 : 1, 0, -1), BAD);
        }
        CartArguments x = Built.full(9);
        for (int place = 0; place <= 6; place++) {
            Check.due("all at once", x.at(0, place), place);
        }
    }

    private static void weightOfACart() {
        of("The weight of a cart is that of all things on it together.");
        CartArguments x = Built.full(9);
        x.cart(9);
        x.premise(9);
        Check.due("full", x.cartOf(0, 4), 108);
        Check.due("empty", x.cartOf(1, 4), 0);
        x.load(7, 1, 3);
        Check.due("one premise", x.cartOf(1, 4), 9);
        Check.due("full still", x.cartOf(0, 4), 108);
        x.unload(6);
        Check.due("six premises", x.cartOf(0, 4), 54);
        for (int thing = 0; thing < 6; thing++) {
            x.unload(thing);
        }
        Check.due("empty again", x.cartOf(0, 4), 0);
    }

    private static void tenthsByPlace() {
        of("In tenths, a premise loads the front axle with its weight times 2 times what is left to 5 of its place,"
                + " and the rear axle with its weight times 2 times its place; a conclusion loads each axle with its"
                + " weight times 5.");
        int[] front = {10, 8, 6, 4, 2, 0};
        int[] rear = {0, 2, 4, 6, 8, 10};
        for (int place = 0; place < 6; place++) {
            for (int weight = 1; weight <= 9; weight += 4) {
                CartArguments x = Built.cart(9);
                x.premise(weight);
                x.load(0, 0, place);
                Check.due(weight + " at " + place + " in front", x.tenths(0, false), weight * front[place]);
                Check.due(weight + " at " + place + " behind", x.tenths(0, true), weight * rear[place]);
                x.conclusion(weight);
                x.load(1, 0, 6);
                Check.due("with " + weight + " on the top, in front", x.tenths(0, false), weight * (front[place] + 5));
                Check.due("with " + weight + " on the top, behind", x.tenths(0, true), weight * (rear[place] + 5));
            }
        }
        CartArguments x = Built.full(9);
        Check.due("full, in front", x.tenths(0, false), 540);
        Check.due("full, behind", x.tenths(0, true), 540);
        x.cart(1);
        Check.due("empty, in front", x.tenths(1, false), 0);
        Check.due("empty, behind", x.tenths(1, true), 0);
    }

    private static void loadOfAnAxle() {
        of("The load of an axle is a float: its tenths divided by 10, both as floats.");
        CartArguments x = Built.full(9);
        Check.dueExactly("full", x.axle(0, false), 54.0f);
        x.cart(1);
        Check.dueExactly("empty", x.axle(1, true), 0.0f);
        CartArguments y = Built.cart(9, 0, 0, 0, 0, 1, 0, 1);
        Check.dueExactly("7 tenths", y.axle(0, false), 0.7f);
        Check.dueExactly("13 tenths", y.axle(0, true), 13f / 10f);
        for (int weight = 1; weight <= 9; weight++) {
            CartArguments z = Built.cart(9, 0, weight, 0, 0, 0, 0, weight);
            Check.dueExactly(weight + " in front", z.axle(0, false), (float) (13 * weight) / (float) 10);
            Check.dueExactly(weight + " behind", z.axle(0, true), (float) (7 * weight) / (float) 10);
        }
    }

    private static void creaking() {
        of("An axle creaks if its load is more than the strength of its cart, as a float.");
        Check.due("6.0 for 6", Built.cart(6, 5, 0, 0, 0, 0, 0, 2).cartOf(0, 7), 0);
        Check.due("6.1 for 6", Built.cart(6, 0, 7, 0, 0, 0, 0, 1).cartOf(0, 7), 1);
        Check.due("5.9 for 6", Built.cart(6, 0, 0, 9, 0, 0, 0, 1).cartOf(0, 7), 0);
        Check.due("behind, 6.0 for 6", Built.cart(6, 0, 0, 0, 0, 0, 5, 2).cartOf(0, 7), 0);
        Check.due("behind, 6.1 for 6", Built.cart(6, 0, 0, 0, 0, 7, 0, 1).cartOf(0, 7), 1);
        Check.due("54 for 54", Built.full(54).cartOf(0, 7), 0);
        Check.due("54 for 53", Built.full(53).cartOf(0, 7), 2);
        Check.due("54 for 60", Built.full(60).cartOf(0, 7), 0);
        Check.due("1.0 for 1", Built.cart(1, 1).cartOf(0, 7), 0);
        Check.due("1.2 for 1", Built.cart(1, 0, 0, 2).cartOf(0, 7), 1);
        Check.due("nothing for 1", Built.cart(1).cartOf(0, 7), 0);
        CartArguments x = Built.cart(9);
        Built.addCart(x, 1, 9);
        Check.due("the strength of its own cart", x.cartOf(1, 7), 1);
        Check.due("the load of its own cart", x.cartOf(0, 7), 0);
    }

    private static void wearAtFirst() {
        of("Each axle has a wear, a float, at first 0.");
        CartArguments x = Built.worn();
        x.cart(9);
        for (int round = 0; round < 2; round++) {
            Check.dueExactly("of cart 1", x.wear(1, round == 1), 0.0f);
            Check.due("wear of cart 0", x.wear(0, round == 1) > 0.0f ? 1 : 0, 1);
        }
        wearOfEach();
        x.clear();
        x.cart(9);
        Check.dueExactly("after clear, in front", x.wear(0, false), 0.0f);
        Check.dueExactly("after clear, behind", x.wear(0, true), 0.0f);
        Check.due("grease of a new cart", x.grease(0), REFUSED);
    }

    /** The carts make trips one after the other, and no axle wears another one. */
    private static void wearOfEach() {
        CartArguments x = new CartArguments();
        x.road(99, 9, 0);
        for (int cart = 0; cart < 4; cart++) {
            Built.addCart(x, 60, cart + 1, 0, 0, 0, 0, 0, 1);
        }
        for (int trips = 1; trips <= 4; trips++) {
            x.trip(4 - trips, 0);
            for (int cart = 0; cart < 4; cart++) {
                float front = cart >= 4 - trips ? (10 * (cart + 1) + 5) / 10f * 9.0f * 0.001f : 0.0f;
                float rear = cart >= 4 - trips ? 0.5f * 9.0f * 0.001f : 0.0f;
                Check.dueExactly("wear in front of cart " + cart, x.wear(cart, false), front);
                Check.dueExactly("wear behind of cart " + cart, x.wear(cart, true), rear);
            }
        }
        Check.due("grease of cart 2", x.grease(2), 0);
        Check.dueExactly("the least wear, of cart 3", x.wear(3, true), 0.5f * 9.0f * 0.001f);
    }

    /** A hundred trips by 0.01 each leave the wear a little below 1, as floats add up. */
    private static void wornOutFromOne() {
        of("It is worn out if its wear is 1 or more.");
        CartArguments x = Built.cart(11, 0, 0, 5, 5, 0, 0, 10);
        x.road(20, 1, 0);
        for (int trips = 0; trips < 100; trips++) {
            Check.due("trip " + trips, x.trip(0, 0), 0);
        }
        Check.dueExactly("just below 1", x.wear(0, false), 0.99999934f);
        Check.due("just below 1 is not worn out", x.account(8), 0);
        Check.due("just below 1 could", x.could(0, 0), 1);
        Check.due("just below 1 makes a trip", x.trip(0, 0), 0);
        Check.due("above 1 is worn out", x.account(8), 2);
        dueReason(x, "above 1 makes no trip", x.trip(0, 0), 10, 0);
        Check.due("grease above 1", x.grease(0), 2);
        justOne(0, 8, 0, 0, 0, 0, 1, 9);
        justOne(1, 1, 0, 0, 0, 0, 8, 9);
    }

    /** Eight trips of an eighth each. */
    private static void justOne(int axle, int... weights) {
        CartArguments x = Built.cart(6, weights);
        x.road(18, 5, 0);
        for (int trips = 0; trips < 8; trips++) {
            Check.due("not worn out after " + trips, x.account(8), 0);
            Check.due("could until just 1", x.could(0, 0), 8 - trips);
            Check.due("trip by an eighth", x.trip(0, 0), 1);
        }
        Check.dueExactly("just 1", x.wear(0, axle == 1), 1.0f);
        Check.due("just 1 is worn out", x.account(8), 1);
        Check.due("just 1 could not", x.could(0, 0), 0);
        dueReason(x, "just 1 makes no trip", x.trip(0, 0), 10, axle);
        Check.due("grease of just 1", x.grease(0), 1);
    }

    private static void imbalance() {
        of("The imbalance of a cart is the difference of the tenths of both axles.");
        Check.due("empty", Built.cart(9).cartOf(0, 6), 0);
        Check.due("more in front", Built.cart(9, 9).cartOf(0, 6), 90);
        Check.due("more behind", Built.cart(9, 0, 0, 0, 0, 0, 9).cartOf(0, 6), 90);
        Check.due("most in front", Built.cart(9, 9, 9, 9).cartOf(0, 6), 162);
        Check.due("most behind", Built.cart(9, 0, 0, 0, 9, 9, 9).cartOf(0, 6), 162);
        Check.due("alike", Built.cart(9, 0, 0, 3, 3).cartOf(0, 6), 0);
        Check.due("the conclusion makes none", Built.cart(9, 0, 9, 0, 0, 0, 0, 9).cartOf(0, 6), 54);
        Check.due("swap answers it", Built.cart(9, 9).swap(0, 0, 5), 90);
    }

    private static void atMostFiveRoads() {
        of("At most 5 roads are there, numbered from 0, each with a limit from 1 to 99, from 1 to 9 miles, and a rate"
                + " from 0 to 9.");
        CartArguments x = new CartArguments();
        int[] no = {-1, Integer.MIN_VALUE, Integer.MAX_VALUE, 256 + 5, 65536 + 5};
        for (int number : no) {
            Check.due("limit " + number, x.road(number, 1, 1), BAD);
            Check.due("miles " + number, x.road(1, number, 1), BAD);
            Check.due("rate " + number, x.road(1, 1, number), BAD);
        }
        Check.due("limit 0", x.road(0, 1, 0), BAD);
        Check.due("limit 100", x.road(100, 1, 0), BAD);
        Check.due("miles 0", x.road(1, 0, 0), BAD);
        Check.due("miles 10", x.road(1, 10, 0), BAD);
        Check.due("rate 10", x.road(1, 1, 10), BAD);
        int[][] roads = {{1, 1, 0}, {99, 9, 9}, {1, 9, 9}, {99, 1, 9}, {99, 9, 0}};
        for (int number = 0; number < 5; number++) {
            Check.due("road " + number + " not yet", x.roadOf(number, 0), NONE);
            Check.due("road", x.road(roads[number][0], roads[number][1], roads[number][2]), number);
            for (int what = 0; what < 3; what++) {
                Check.due("road " + number + ", " + what, x.roadOf(number, what), roads[number][what]);
            }
        }
        dueReason(x, "road 5", x.road(1, 1, 1), 1, 5);
        dueReason(x, "road 5 by text", Check.say(x, "road 1 1 1"), 12, 0);
        Check.due("road 5 is not there", x.roadOf(5, 0), NONE);
        x.undo();
        Check.due("road 4 again", x.road(9, 9, 9), 4);
    }

    private static void tollOfATrip() {
        of("On a trip over a road a cart pays a toll: the weight of its conclusion times the rate, both as floats, and"
                + " this times 0.25; it is added to the tolls paid so far, a float, at first 0.");
        CartArguments x = Built.cart(60, 9, 9, 9, 0, 0, 0, 27);
        x.road(99, 1, 0);
        x.road(99, 1, 9);
        x.road(99, 1, 1);
        x.road(53, 1, 1);
        Check.dueExactly("at first", x.tolls(), 0.0f);
        x.trip(0, 0);
        Check.dueExactly("rate 0", x.tolls(), 0.0f);
        x.trip(0, 1);
        Check.dueExactly("rate 9", x.tolls(), 60.75f);
        x.trip(0, 2);
        Check.dueExactly("rate 1", x.tolls(), 67.5f);
        Check.due("refused", x.trip(0, 3), REFUSED);
        Check.dueExactly("refused pays nothing", x.tolls(), 67.5f);
        CartArguments y = Built.cart(60, 1, 0, 0, 0, 0, 0, 1);
        y.road(2, 1, 1);
        y.trip(0, 0);
        Check.dueExactly("the least toll", y.tolls(), 0.25f);
    }

    private static void wearOfATrip() {
        of("Then, first for the front axle, wear is added to its wear: its load times the miles, as a float, and this"
                + " times 0.001; and this times 2, if the axle creaks.");
        CartArguments x = Built.cart(6, 0, 7, 0, 0, 0, 0, 1);
        x.road(9, 9, 0);
        Check.due("the front axle creaks", x.trip(0, 0), 1);
        Check.dueExactly("in front, 6.1 for 6", x.wear(0, false), 6.1f * 9.0f * 0.001f * 2.0f);
        Check.dueExactly("behind, 1.9 for 6", x.wear(0, true), 1.9f * 9.0f * 0.001f);
        x.trip(0, 0);
        Check.dueExactly("twice, behind", x.wear(0, true), 1.9f * 9.0f * 0.001f + 1.9f * 9.0f * 0.001f);
        CartArguments y = Built.cart(6, 5, 0, 0, 0, 0, 0, 2);
        y.road(9, 1, 0);
        Check.due("no axle creaks", y.trip(0, 0), 0);
        Check.dueExactly("in front, 6.0 for 6", y.wear(0, false), 6.0f * 1.0f * 0.001f);
        CartArguments z = Built.cart(6, 0, 0, 0, 0, 7, 0, 1);
        z.road(9, 9, 0);
        Check.due("the rear axle creaks", z.trip(0, 0), 1);
        Check.dueExactly("behind, 6.1 for 6", z.wear(0, true), 6.1f * 9.0f * 0.001f * 2.0f);
        Check.dueExactly("in front, 1.9 for 6", z.wear(0, false), 1.9f * 9.0f * 0.001f);
    }

    /** 1.2 times 3 and then times 0.001 is another float than in any other order, or with doubles. */
    private static void floatsInOrder() {
        of("All reckoning with floats is made with floats, step by step, in the order in which it is told.");
        CartArguments x = Built.cart(9, 0, 0, 0, 0, 1, 1, 2);
        x.road(9, 3, 0);
        x.trip(0, 0);
        Check.dueExactly("1.2 over 3 miles", x.wear(0, false), 0.0036000004f);
        float wear = x.wear(0, false);
        for (int trips = 0; trips < 50; trips++) {
            x.trip(0, 0);
            wear = wear + 0.0036000004f;
        }
        Check.dueExactly("trip by trip", x.wear(0, false), wear);
        of("0.25, 0.001, and 2 are floats, too.");
        CartArguments y = Built.cart(1, 0, 0, 0, 0, 1, 1, 2);
        y.road(9, 6, 1);
        y.trip(0, 0);
        Check.dueExactly("1.2 over 6 miles, creaking", y.wear(0, false), 1.2f * 6.0f * 0.001f * 2.0f);
        Check.due("with doubles it were another", 1.2f * 6.0f * 0.001 * 2.0 == y.wear(0, false) ? 1 : 0, 0);
        Check.dueExactly("a toll", y.tolls(), 0.5f);
    }

    private static void atMostSixtySigns() {
        of("The input has at most 60 characters, with codes from 32 to 126.");
        CartArguments x = new CartArguments();
        int length = 0;
        for (int code = 0; code < 300; code++) {
            boolean isIn = code >= 32 && code <= 126 && length < 60;
            length += isIn ? 1 : 0;
            Check.due("append(" + code + ")", x.append((char) code), isIn ? length : BAD);
        }
        Check.due("append(32) to 60", x.append(' '), BAD);
        Check.due("60 signs", x.account(11), 60);
        CartArguments y = new CartArguments();
        Check.type(y, "cart 9;cart 8;cart 7;premise 1;premise 2;premise 3;premise 4;cart 1");
        Check.due("60 signs of them", y.account(11), 60);
        Check.due("read of 60 signs", y.read(), 7);
        Check.due("append after read", y.append('~'), 1);
        for (int code = 90; code <= 126; code++) {
            Check.due("append(" + code + ")", y.append((char) code), code - 88);
        }
        int[] no = {31, 127, 128, 160, 255, 256 + 32, 65535 - 100, 65535};
        for (int code : no) {
            Check.due("append(" + code + ")", y.append((char) code), BAD);
        }
    }

    private static void dueText(String text, int answer, int fault) {
        CartArguments x = new CartArguments();
        Check.due("\"" + text + "\"", Check.say(x, text), answer);
        Check.due("\"" + text + "\" fault", x.fault(), fault);
    }

    private static void oneCommandOrMore() {
        of("`text = command { \";\" command`}");
        dueText("", BAD, 0);
        dueText("cart 9", 1, NOTHING);
        dueText("cart 9;cart 8", 2, NOTHING);
        dueText("cart 9;cart 8;cart 7;cart 6", 4, NOTHING);
        dueText("cart 9;", BAD, 7);
        dueText(";cart 9", BAD, 0);
        dueText("cart 9;;cart 9", BAD, 7);
        dueText("cart 9; cart 9", BAD, 7);
        dueText("cart 9 ;cart 9", BAD, 6);
        dueText("cart 9,cart 9", BAD, 6);
        dueText("cart 9cart 9", BAD, 6);
        dueText("cart 9;cart 9;cart 9;cart 9;cart 9;cart 9;cart 9;cart 9;", BAD, 56);
        dueText("cart 9;cart 9;cart 9;cart 9;cart 9;cart 9;cart 9;cart 9;cart", BAD, 60);
        dueText("cart 9;cart 9;cart 9;cart 9;cart 9;cart 9;cart 9;cart 9", REFUSED, NOTHING);
    }

    private static void oneDigitOrTwo() {
        of("`number = digit [ digit ]`");
        String[] heads = {"conclusion ", "cart ", "unload "};
        for (String head : heads) {
            int start = head.length();
            dueText(head, BAD, start);
            dueText(head + "/", BAD, start);
            dueText(head + ":", BAD, start);
            dueText(head + "-1", BAD, start);
            dueText(head + "1/", BAD, start + 1);
            dueText(head + "1:", BAD, start + 1);
            dueText(head + "123", BAD, start + 2);
            dueText(head + "12/", BAD, start + 2);
            dueText(head + "000", BAD, start + 2);
            dueText(head + " 1", BAD, start);
        }
        dueText("cart 0", REFUSED, NOTHING);
        dueText("cart 00", REFUSED, NOTHING);
        dueText("cart 60", 1, NOTHING);
        dueText("cart 61", REFUSED, NOTHING);
        dueText("cart 99", REFUSED, NOTHING);
        dueText("conclusion 54", 1, NOTHING);
        dueText("conclusion 55", REFUSED, NOTHING);
        dueText("road 1 1 0", 1, NOTHING);
        dueText("road 99 1 0", 1, NOTHING);
        dueText("road 100 1 0", BAD, 7);
        dueText("road 1 10 0", BAD, 8);
        dueText("road 1 1 10", BAD, 10);
        CartArguments x = new CartArguments();
        Check.due("a naught ahead", Check.say(x, "cart 09;cart 10;cart 9;cart 59"), 4);
        int[] strengths = {9, 10, 9, 59};
        for (int cart = 0; cart < 4; cart++) {
            Check.due("a number of a text", x.cartOf(cart, 0), strengths[cart]);
        }
    }

    /** Each command with one sign put in place of another, or with its end cut off. */
    private static void formsOfCommands() {
        of("`command = \"premise \" digit | \"conclusion \" number | \"cart \" number | \"road \" number \" \" digit \" \""
                + " digit | \"load \" number \" \" digit digit | \"unload \" number | \"swap \" digit \" \" digit digit |"
                + " \"trip \" digit \" \" digit | \"grease \" digit`");
        of("Its grammar is as follows, with terminals in quotes, where braces mean repetition and brackets an optional"
                + " part:");
        of("The fault position of a text is the index of its first character that cannot continue such a text, or its"
                + " length if it ends too early; words are looked at letter by letter.");
        String[] commands = {
            "premise 5", "conclusion 5", "cart 5", "road 5 5 5", "load 5 55", "unload 5", "swap 5 55", "trip 5 5",
            "grease 5", "conclusion 55", "cart 55", "road 55 5 5", "load 55 55", "unload 55",
        };
        String[] aheads = {"", "cart 5;", "cart 55;premise 5;"};
        for (String ahead : aheads) {
            for (String command : commands) {
                cutAnywhere(ahead, command);
                changeAnywhere(ahead, command);
                dueFault(ahead + command + "~", ahead.length() + command.length());
                dueFault(ahead + command + " ", ahead.length() + command.length());
                dueFault(ahead + command + "P", ahead.length() + command.length());
                dueFault(ahead + command + ";", ahead.length() + command.length() + 1);
            }
            dueFault(ahead + "pconclusion 5", ahead.length() + 1);
            dueFault(ahead + "caonclusion 5", ahead.length() + 2);
            dueFault(ahead + "corclusion 5", ahead.length() + 2);
            dueFault(ahead + "unlo 5", ahead.length() + 4);
            dueFault(ahead + "PREMISE 5", ahead.length());
            dueFault(ahead + "premise 55", ahead.length() + 9);
            dueFault(ahead + "grease 05", ahead.length() + 8);
            dueFault(ahead + "trip 05 5", ahead.length() + 6);
            dueFault(ahead + "trip 5 55", ahead.length() + 8);
            dueFault(ahead + "swap 55 55", ahead.length() + 6);
            dueFault(ahead + "swap 5 5 5", ahead.length() + 8);
            dueFault(ahead + "load 5 5", ahead.length() + 8);
            dueFault(ahead + "load 5 555", ahead.length() + 9);
            dueFault(ahead + "load 555 55", ahead.length() + 7);
        }
    }

    private static void cutAnywhere(String ahead, String command) {
        for (int length = 0; length < command.length(); length++) {
            String text = ahead + command.substring(0, length);
            boolean isWhole = command.matches("(conclusion|cart|unload) 55") && length == command.length() - 1;
            if (!isWhole) {
                dueFault(text, text.length());
            }
        }
    }

    private static void changeAnywhere(String ahead, String command) {
        for (int index = 0; index < command.length(); index++) {
            String text = ahead + command.substring(0, index);
            String rest = command.substring(index + 1);
            char sign = command.charAt(index);
            dueFault(text + "~" + rest, text.length());
            dueFault(text + "/" + rest, text.length());
            dueFault(text + ":" + rest, text.length());
            if (sign != ' ' && !(sign == '5' && index > 0 && command.charAt(index - 1) == '5')) {
                dueFault(text + " " + rest, text.length());
                dueFault(text + ";" + rest, text.length());
            }
            if (sign < '0' || sign > '9') {
                dueFault(text + (sign == ' ' ? "_" : String.valueOf((char) (sign - 32))) + rest, text.length());
            }
        }
    }

    private static void dueFault(String text, int fault) {
        CartArguments x = new CartArguments();
        if (text.length() > 60) {
            return;
        }
        Check.due("\"" + text + "\"", Check.say(x, text), BAD);
        Check.due("\"" + text + "\" fault", x.fault(), fault);
        Check.due("\"" + text + "\" leaves nothing", x.account(0) + x.account(4) + x.account(12), 0);
    }

    private static void commandsAreCalls() {
        of("The commands are the calls of premise and conclusion, with the weight; cart, with the strength; road, with"
                + " the limit, the miles and the rate; load, with the thing, the cart and the place; unload; swap, with"
                + " the cart and both places; trip, with the cart and the road; and grease.");
        CartArguments x = new CartArguments();
        CartArguments y = new CartArguments();
        Check.due("things", Check.say(x, "premise 9;premise 1;conclusion 8;conclusion 10"), 4);
        Check.due("thing 3", y.premise(9) + y.premise(1) + y.conclusion(8) + y.conclusion(10), 6);
        Check.due("carts and roads", Check.say(x, "cart 60;cart 1;road 99 2 3;road 1 9 0;road 30 3 2"), 5);
        Check.due("carts", y.cart(60) + y.cart(1), 1);
        Check.due("roads", y.road(99, 2, 3) + y.road(1, 9, 0) + y.road(30, 3, 2), 3);
        Check.due("loads", Check.say(x, "load 0 15;load 1 10;load 2 16;load 03 16"), REFUSED);
        Check.due("loads, but one", Check.say(x, "load 0 15;load 1 10;load 3 16"), 3);
        Check.due("loads of calls", y.load(0, 1, 5) + y.load(1, 1, 0) + y.load(3, 1, 6), 39);
        Check.due("swap", Check.say(x, "swap 1 53"), 1);
        Check.due("swap of a call", y.swap(1, 5, 3), y.cartOf(1, 6));
        Check.due("trips", Check.say(x, "trip 1 2;trip 1 0;trip 1 0"), 3);
        Check.due("trips of calls", y.trip(1, 2) + y.trip(1, 0) + y.trip(1, 0), 6);
        Check.dueText("all of it", Built.things(x), Built.things(y));
        Check.due("unload and grease", Check.say(x, "unload 3;grease 1"), 2);
        Check.due("unload and grease by calls", y.unload(3) + y.grease(1), 1);
        Check.dueText("all of it then", Built.things(x), Built.things(y));
        Check.due("no cart of this number", Check.say(x, "grease 4"), REFUSED);
        Check.due("no road of this number", Check.say(x, "trip 1 5"), REFUSED);
        Check.due("no thing of this number", Check.say(x, "unload 99"), REFUSED);
    }
}
