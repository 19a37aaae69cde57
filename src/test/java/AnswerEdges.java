/** The edges that promises 16 to 41 name: what is answered, and what is undone, saved and restored. */
final class AnswerEdges {
    private static final int NONE = CartArguments.NONE;
    private static final int BAD = CartArguments.BAD;
    private static final int REFUSED = CartArguments.REFUSED;
    private static final int NOTHING = CartArguments.NOTHING;

    private AnswerEdges() {
    }

    static void all() {
        thingOf();
        cartOf();
        at();
        roadOf();
        tenths();
        axleAndWear();
        tolls();
        best();
        could();
        takes();
        cheapest();
        heaviest();
        fullest();
        write();
        writeRoads();
        written();
        isWell();
        shares();
        account();
        undo();
        save();
        restore();
    }

    private interface Numbers {
        int of(int number, int what);
    }

    /** There are so many of a kind, with so many whats; each number and what beyond is told to be so. */
    private static void dueBounds(String call, Numbers numbers, int count, int whats) {
        int[] beyond = {whats, whats + 1, 7 + whats, 16 + whats};
        for (int wild : Built.WILD) {
            Check.due(call + "(" + wild + ", 0)", numbers.of(wild, 0), NONE);
            Check.due(call + "(" + wild + ", " + wild + ")", numbers.of(wild, wild), NONE);
            Check.due(call + "(0, " + wild + ")", numbers.of(0, wild), BAD);
        }
        for (int what : beyond) {
            Check.due(call + "(0, " + what + ")", numbers.of(0, what), BAD);
            Check.due(call + "(last, " + what + ")", numbers.of(count - 1, what), BAD);
            Check.due(call + "(count, " + what + ")", numbers.of(count, what), NONE);
        }
        for (int what = 0; what < whats; what++) {
            Check.due(call + "(count, " + what + ")", numbers.of(count, what), NONE);
        }
    }

    private static void thingOf() {
        Sentences.nameNoEdge(16, "Returns a number of a thing.", "`thing`: the thing");
        Sentences.of(16, "`what`: 0 for 0 for a premise, and 1 for a conclusion; 1 for its weight; 2 for its cart, NOTHING"
                + " if it is on none; 3 for its place, NOTHING if it is on none");
        CartArguments x = new CartArguments();
        x.cart(9);
        Built.addCart(x, 9, 0, 0, 0, 0, 0, 9, 9);
        x.premise(1);
        x.conclusion(54);
        int[][] due = {{0, 9, 1, 5}, {1, 9, 1, 6}, {0, 1, NOTHING, NOTHING}, {1, 54, NOTHING, NOTHING}};
        for (int thing = 0; thing < 4; thing++) {
            for (int what = 0; what < 4; what++) {
                Check.due("thingOf(" + thing + ", " + what + ")", x.thingOf(thing, what), due[thing][what]);
            }
        }
        x.unload(1);
        Check.due("cart of what was unloaded", x.thingOf(1, 2), NOTHING);
        Check.due("place of what was unloaded", x.thingOf(1, 3), NOTHING);
        x.load(2, 0, 0);
        Check.due("cart 0", x.thingOf(2, 2), 0);
        Check.due("place 0", x.thingOf(2, 3), 0);
        Sentences.of(16, "Returns the number; NONE if there is no such thing; BAD if there is no such what.");
        dueBounds("thingOf", (thing, what) -> x.thingOf(thing, what), 4, 4);
        CartArguments y = Built.crowded();
        Check.due("thing 11", y.thingOf(11, 3), NOTHING);
        Check.due("thing 12", y.thingOf(12, 3), NONE);
        Check.due("what 4 of thing 11", y.thingOf(11, 4), BAD);
    }

    private static void cartOf() {
        Sentences.nameNoEdge(17, "Returns a number of a cart.", "`cart`: the cart");
        Sentences.of(17, "`what`: 0 for its strength; 1 for the premises on it; 2 for the weight of these; 3 for its"
                + " conclusion, NOTHING if it has none; 4 for its weight; 5 for its trips so far; 6 for its imbalance; 7"
                + " for how many of its axles creak");
        CartArguments x = Built.cart(60);
        Built.addCart(x, 9, 9, 0, 0, 0, 0, 1, 3);
        Built.addCart(x, 1, 1, 1, 1, 1, 1, 1);
        x.road(13, 1, 1);
        x.trip(1, 0);
        x.trip(1, 0);
        int[][] due = {
            {60, 0, 0, NOTHING, 0, 0, 0, 0}, {9, 2, 10, 2, 13, 2, 80, 1}, {1, 6, 6, NOTHING, 6, 0, 0, 2},
        };
        for (int cart = 0; cart < 3; cart++) {
            for (int what = 0; what < 8; what++) {
                Check.due("cartOf(" + cart + ", " + what + ")", x.cartOf(cart, what), due[cart][what]);
            }
        }
        x.unload(2);
        Check.due("no conclusion any more", x.cartOf(1, 3), NOTHING);
        Check.due("trips are kept", x.cartOf(1, 5), 2);
        Sentences.of(17, "Returns the number; NONE if there is no such cart; BAD if there is no such what.");
        dueBounds("cartOf", (cart, what) -> x.cartOf(cart, what), 3, 8);
        CartArguments y = Built.crowded();
        Check.due("cart 3", y.cartOf(3, 0), 9);
        Check.due("cart 4", y.cartOf(4, 0), NONE);
        Check.due("what 8 of cart 3", y.cartOf(3, 8), BAD);
    }

    private static void at() {
        Sentences.nameNoEdge(18, "Returns the thing at a place of a cart.", "`cart`: the cart");
        Sentences.of(18, "`place`: the place, from 0 to 6");
        CartArguments x = Built.full(9);
        for (int place = -3; place <= 9; place++) {
            Check.due("place " + place, x.at(0, place), place < 0 || place > 6 ? BAD : place);
        }
        Sentences.of(18, "Returns the thing; NONE if there is no such cart; BAD if there is no such place; NOTHING if"
                + " there is none.");
        x.cart(9);
        for (int place = 0; place <= 6; place++) {
            Check.due("empty", x.at(1, place), NOTHING);
            Check.due("cart 2", x.at(2, place), NONE);
        }
        x.unload(6);
        Check.due("an empty top", x.at(0, 6), NOTHING);
        x.unload(0);
        Check.due("an empty place", x.at(0, 0), NOTHING);
        for (int wild : Built.WILD) {
            Check.due("cart " + wild, x.at(wild, 0), NONE);
            Check.due("both " + wild, x.at(wild, wild), NONE);
            Check.due("place " + wild, x.at(1, wild), BAD);
        }
        CartArguments y = new CartArguments();
        y.premise(5);
        y.cart(5);
        Check.due("a loose thing is at no place", y.at(0, 0), NOTHING);
    }

    private static void roadOf() {
        Sentences.nameNoEdge(19, "Returns a number of a road.", "`road`: the road");
        Sentences.of(19, "`what`: 0 for its limit; 1 for its miles; 2 for its rate; 3 for the trips over it so far");
        CartArguments x = Built.cart(9, 1, 0, 0, 0, 0, 0, 1);
        Built.addCart(x, 9, 1, 0, 0, 0, 0, 0, 1);
        x.road(1, 9, 0);
        x.road(99, 1, 9);
        x.trip(0, 1);
        x.trip(1, 1);
        x.trip(0, 0);
        int[][] due = {{1, 9, 0, 0}, {99, 1, 9, 2}};
        for (int road = 0; road < 2; road++) {
            for (int what = 0; what < 4; what++) {
                Check.due("roadOf(" + road + ", " + what + ")", x.roadOf(road, what), due[road][what]);
            }
        }
        Sentences.of(19, "Returns the number; NONE if there is no such road; BAD if there is no such what.");
        dueBounds("roadOf", (road, what) -> x.roadOf(road, what), 2, 4);
        CartArguments y = Built.crowded();
        Check.due("road 4", y.roadOf(4, 0), 9);
        Check.due("road 5", y.roadOf(5, 0), NONE);
        Check.due("what 4 of road 4", y.roadOf(4, 4), BAD);
    }

    private static void tenths() {
        Sentences.nameNoEdge(20, "`cart`: the cart", "`isRear`: true for the rear axle, false for the front one");
        Sentences.nameNoEdge(21, "`cart`: the cart", "`isRear`: true for the rear axle, false for the front one");
        Sentences.of(20, "Returns the load of an axle in tenths: thing by thing.");
        CartArguments x = Built.cart(9, 1, 2, 3, 4, 5, 6, 7);
        Built.addCart(x, 9, 9);
        x.cart(9);
        Check.due("in front", x.tenths(0, false), 10 + 16 + 18 + 16 + 10 + 35);
        Check.due("behind", x.tenths(0, true), 4 + 12 + 24 + 40 + 60 + 35);
        Check.due("one at 0, in front", x.tenths(1, false), 90);
        Check.due("one at 0, behind", x.tenths(1, true), 0);
        Check.due("empty", x.tenths(2, false) + x.tenths(2, true), 0);
        Sentences.of(20, "Returns the tenths; NONE if there is no such cart.");
        dueNoCart("tenths", cart -> x.tenths(cart, false), 3);
        dueNoCart("tenths behind", cart -> x.tenths(cart, true), 3);
        Sentences.of(21, "Returns the same by a second way: 10 times the weight of the cart, less the tenths of the other"
                + " axle.");
        Check.due("again, in front", x.tenthsAgain(0, false), 105);
        Check.due("again, behind", x.tenthsAgain(0, true), 175);
        Check.due("again, one at 0, in front", x.tenthsAgain(1, false), 90);
        Check.due("again, one at 0, behind", x.tenthsAgain(1, true), 0);
        Check.due("again, empty", x.tenthsAgain(2, false) + x.tenthsAgain(2, true), 0);
        Check.due("again, full", Built.full(9).tenthsAgain(0, true), 540);
        Sentences.of(21, "Returns the tenths; NONE if there is no such cart.");
        dueNoCart("tenthsAgain", cart -> x.tenthsAgain(cart, false), 3);
        dueNoCart("tenthsAgain behind", cart -> x.tenthsAgain(cart, true), 3);
    }

    private interface Number {
        int of(int number);
    }

    private static void dueNoCart(String call, Number answers, int carts) {
        Check.due(call + "(" + carts + ")", answers.of(carts), NONE);
        Check.due(call + "(" + (carts + 1) + ")", answers.of(carts + 1), NONE);
        for (int wild : Built.WILD) {
            Check.due(call + "(" + wild + ")", answers.of(wild), NONE);
        }
    }

    private static void axleAndWear() {
        Sentences.nameNoEdge(22, "Returns the load of an axle.", "`cart`: the cart",
                "`isRear`: true for the rear axle, false for the front one");
        Sentences.nameNoEdge(23, "Returns the wear of an axle.", "`cart`: the cart",
                "`isRear`: true for the rear axle, false for the front one");
        Sentences.of(22, "Returns the load.");
        CartArguments x = Built.cart(60, 9, 0, 0, 0, 0, 0, 9);
        x.cart(9);
        x.road(18, 7, 7);
        Check.dueExactly("in front", x.axle(0, false), 13.5f);
        Check.dueExactly("behind", x.axle(0, true), 4.5f);
        Check.dueExactly("empty", x.axle(1, false), 0.0f);
        Check.dueExactly("cart 2", x.axle(2, false), -1.0f);
        x.trip(0, 0);
        Check.dueExactly("after a trip", x.axle(0, false), 13.5f);
        Sentences.of(23, "Returns the wear.");
        Check.dueExactly("wear in front", x.wear(0, false), 13.5f * 7.0f * 0.001f);
        Check.dueExactly("wear behind", x.wear(0, true), 4.5f * 7.0f * 0.001f);
        Check.dueExactly("wear of an empty cart", x.wear(1, true), 0.0f);
        Check.dueExactly("wear of cart 2", x.wear(2, true), -1.0f);
        x.unload(1);
        x.unload(0);
        Check.dueExactly("wear stays without a load", x.wear(0, false), 13.5f * 7.0f * 0.001f);
    }

    private static void tolls() {
        Sentences.nameNoEdge(24, "Returns the tolls paid so far.");
        Sentences.of(24, "Returns the tolls.");
        CartArguments x = Built.cart(60, 9, 9, 0, 0, 0, 0, 17);
        x.road(99, 1, 9);
        Check.dueExactly("none", x.tolls(), 0.0f);
        x.trip(0, 0);
        Check.dueExactly("one", x.tolls(), 38.25f);
        x.trip(0, 0);
        Check.dueExactly("two", x.tolls(), 76.5f);
        x.undo();
        Check.dueExactly("one undone", x.tolls(), 38.25f);
        x.clear();
        Check.dueExactly("clear", x.tolls(), 0.0f);
    }

    private static void best() {
        Sentences.nameNoEdge(25, "`cart`: the cart");
        Sentences.nameNoEdge(26, "`cart`: the cart");
        Sentences.of(25, "Returns the least imbalance that a cart could have with the premises on it at other places: by"
                + " trying all ways to place them.");
        CartArguments x = Built.cart(9, 9, 9, 9, 9, 9, 9, 54);
        Built.addCart(x, 9, 1, 2, 4);
        x.cart(9);
        Check.due("six", x.best(0), 0);
        Check.due("three", x.best(1), 2);
        Check.due("none", x.best(2), 0);
        Check.due("one", Built.cart(9, 9).best(0), 18);
        Sentences.of(25, "Returns the imbalance; NONE if there is no such cart.");
        dueNoCart("best", cart -> x.best(cart), 3);
        Sentences.of(26, "Returns the same by a second way: place by place, by all sums that come about with each set of"
                + " premises.");
        Check.due("six again", x.bestAgain(0), 0);
        Check.due("three again", x.bestAgain(1), 2);
        Check.due("none again", x.bestAgain(2), 0);
        Check.due("one again", Built.cart(9, 9).bestAgain(0), 18);
        alikeByBothWays();
        alikeOneAfterTheOther();
        Sentences.of(26, "Returns the imbalance; NONE if there is no such cart.");
        dueNoCart("bestAgain", cart -> x.bestAgain(cart), 3);
    }

    /** All weights from 1 to 9 come about with each number of premises. */
    private static void alikeByBothWays() {
        for (int count = 1; count <= 6; count++) {
            for (int step = 0; step < 20; step++) {
                int[] weights = new int[count];
                for (int index = 0; index < count; index++) {
                    weights[index] = 1 + (step * (index + 2) + 3 * index * index) % 9;
                }
                CartArguments x = Built.cart(9, weights);
                String call = "best " + java.util.Arrays.toString(weights);
                int least = leastOf(weights, 0, new boolean[6], 0);
                Check.due(call, x.best(0), least);
                Check.due(call + " again", x.bestAgain(0), least);
            }
        }
    }

    /** Carts with heavy premises one after the other, as what one leaves behind could be taken for the next. */
    private static void alikeOneAfterTheOther() {
        for (int one = 1; one <= 9; one++) {
            for (int other = 4; other <= 9; other++) {
                int[] weights = {9, 9, 9, 9, 9, one};
                int[] others = {9, 9, 9, 9, 9, other};
                CartArguments x = Built.cart(9, weights);
                Built.addCart(x, 9, others);
                String call = "best with " + one + " and " + other;
                int least = leastOf(weights, 0, new boolean[6], 0);
                int leastOther = leastOf(others, 0, new boolean[6], 0);
                Check.due(call, x.bestAgain(0), least);
                Check.due(call + ", the other", x.bestAgain(1), leastOther);
                Check.due(call + ", once more", x.bestAgain(0), least);
                Check.due(call + ", by all ways", x.best(0) * 100 + x.best(1), least * 100 + leastOther);
            }
        }
    }

    private static int leastOf(int[] weights, int index, boolean[] taken, int lean) {
        if (index == weights.length) {
            return Math.abs(lean);
        }
        int least = Integer.MAX_VALUE;
        for (int place = 0; place < 6; place++) {
            if (!taken[place]) {
                taken[place] = true;
                least = Math.min(least, leastOf(weights, index + 1, taken, lean + weights[index] * (10 - 4 * place)));
                taken[place] = false;
            }
        }
        return least;
    }

    private static void could() {
        Sentences.nameNoEdge(27, "`cart`: the cart", "`road`: the road");
        Sentences.of(27, "Returns how many trips a cart could make over a road, one after the other, until one would be"
                + " refused.");
        CartArguments x = Built.cart(13, 9, 0, 0, 0, 0, 0, 9);
        x.road(18, 9, 3);
        x.road(17, 9, 3);
        Check.due("over the limit", x.could(0, 1), 0);
        for (int left = 5; left > 0; left--) {
            Check.due("could", x.could(0, 0), left);
            Check.due("trip", x.trip(0, 0), 1);
        }
        Check.due("none is left", x.could(0, 0), 0);
        Check.due("it is refused", x.trip(0, 0), REFUSED);
        Check.due("the rear one wears out first", couldOfRear(), 5);
        CartArguments none = Built.cart(9, 9);
        none.road(99, 1, 1);
        Check.due("no conclusion", none.could(0, 0), 0);
        none.cart(9);
        Check.due("an empty cart", none.could(1, 0), 0);
        Check.due("no reason by it", none.reason(0, false), NOTHING);
        Check.due("no change by it", none.account(12), 5);
        Sentences.of(27, "Returns how many, 99 at most; NONE if there is no such cart or road.");
        couldAtMost();
        dueNoCart("could", cart -> x.could(cart, 0), 1);
        dueNoCart("could over", road -> x.could(0, road), 2);
        dueNoCart("could over itself", number -> x.could(number, number), 2);
    }

    private static int couldOfRear() {
        CartArguments x = Built.cart(13, 0, 0, 0, 0, 0, 9, 9);
        x.road(18, 9, 3);
        return x.could(0, 0);
    }

    /** Loads of 10.3, 10.2 and 10.1 over a mile each make 98, 99 and 100 trips. */
    private static void couldAtMost() {
        CartArguments x = Built.cart(11, 0, 0, 9, 1, 0, 0, 9);
        CartArguments y = Built.cart(11, 0, 0, 8, 0, 2, 0, 10);
        CartArguments z = Built.cart(11, 0, 0, 9, 0, 1, 0, 9);
        int[] tenths = {103, 102, 101};
        CartArguments[] all = {x, y, z};
        for (int index = 0; index < 3; index++) {
            all[index].road(99, 1, 0);
            Check.due("the load", all[index].tenths(0, false), tenths[index]);
        }
        Check.due("98", x.could(0, 0), 98);
        Check.due("99", y.could(0, 0), 99);
        Check.due("100", z.could(0, 0), 99);
        y.trip(0, 0);
        z.trip(0, 0);
        Check.due("99 less one", y.could(0, 0), 98);
        Check.due("100 less one", z.could(0, 0), 99);
        z.trip(0, 0);
        Check.due("100 less two", z.could(0, 0), 98);
        CartArguments least = Built.cart(60, 0, 0, 1, 0, 0, 0, 1);
        least.road(2, 1, 0);
        Check.due("many more", least.could(0, 0), 99);
    }

    private static void takes() {
        Sentences.nameNoEdge(28, "`cart`: the cart");
        Sentences.of(28, "Returns the roads whose limit a cart does not pass.");
        CartArguments x = Built.cart(9, 9);
        x.cart(9);
        Check.due("no roads", x.takes(0), 0);
        x.road(9, 1, 1);
        x.road(8, 1, 1);
        x.road(10, 1, 1);
        Check.due("at the limit, above it, below it", x.takes(0), 1 + 4);
        Check.due("an empty cart", x.takes(1), 7);
        CartArguments full = Built.full(9);
        full.road(99, 1, 1);
        Check.due("none takes it", full.takes(0), 0);
        Sentences.of(28, "Returns their set, bit k for the road k; NONE if there is no such cart.");
        x.road(1, 1, 1);
        x.road(99, 1, 1);
        Check.due("five roads", x.takes(0), 1 + 4 + 16);
        Check.due("all five", x.takes(1), 31);
        dueNoCart("takes", cart -> x.takes(cart), 2);
    }

    private static void cheapest() {
        Sentences.nameNoEdge(29, "`cart`: the cart");
        Sentences.of(29, "Returns the road with the least toll of those whose limit a cart does not pass, of several the"
                + " one with fewer miles, then the lowest one.");
        CartArguments x = Built.cart(9, 5, 0, 0, 0, 0, 0, 5);
        x.road(9, 1, 0);
        x.road(10, 2, 5);
        Check.due("at the limit", x.cheapest(0), 1);
        x.road(10, 9, 4);
        Check.due("by the toll", x.cheapest(0), 2);
        x.road(99, 8, 4);
        Check.due("by the miles", x.cheapest(0), 3);
        x.road(10, 8, 4);
        Check.due("the lowest one", x.cheapest(0), 3);
        x.undo();
        x.road(99, 1, 5);
        Check.due("a greater toll over fewer miles", x.cheapest(0), 3);
        x.undo();
        x.road(99, 9, 9);
        Check.due("a greater toll", x.cheapest(0), 3);
        x.undo();
        x.road(10, 9, 0);
        Check.due("no toll", x.cheapest(0), 4);
        CartArguments y = Built.cart(9, 5, 0, 0, 0, 0, 0, 5);
        for (int road = 0; road < 5; road++) {
            y.road(99, 3, 3);
        }
        Check.due("all alike", y.cheapest(0), 0);
        Sentences.of(29, "Returns the road; NONE if there is no such cart; NOTHING if there is none, or the cart has no"
                + " conclusion.");
        dueNoCart("cheapest", cart -> y.cheapest(cart), 1);
        y.cart(9);
        Check.due("an empty cart", y.cheapest(1), NOTHING);
        y.unload(1);
        Check.due("no conclusion", y.cheapest(0), NOTHING);
        CartArguments z = Built.full(9);
        Check.due("no roads", z.cheapest(0), NOTHING);
        z.road(99, 1, 1);
        Check.due("over each limit", z.cheapest(0), NOTHING);
    }

    private static void heaviest() {
        Sentences.of(30, "Returns a thing by its weight, the greatest first, of several premises ahead of conclusions,"
                + " then the lowest one.");
        CartArguments x = new CartArguments();
        x.conclusion(9);
        x.premise(9);
        x.conclusion(10);
        x.premise(8);
        x.premise(9);
        x.conclusion(9);
        x.conclusion(8);
        int[] due = {2, 1, 4, 0, 5, 3, 6};
        for (int place = 0; place < 7; place++) {
            Check.due("heaviest(" + place + ")", x.heaviest(place), due[place]);
        }
        Sentences.of(30, "`place`: the place, from 0");
        Check.due("0", x.heaviest(0), 2);
        Check.due("-1", x.heaviest(-1), NONE);
        Sentences.of(30, "Returns the thing; NONE if there is no such place.");
        Check.due("the last", x.heaviest(6), 6);
        dueNoCart("heaviest", place -> x.heaviest(place), 7);
        dueNoCart("heaviest without things", place -> new CartArguments().heaviest(place), 0);
        CartArguments full = Built.crowded();
        Check.due("11 of twelve", full.heaviest(11), 11);
        Check.due("12 of twelve", full.heaviest(12), NONE);
    }

    private static void fullest() {
        Sentences.of(31, "Returns a cart by its weight, the greatest first, of several the one with the lesser imbalance,"
                + " then the lowest one.");
        CartArguments x = Built.cart(9, 5);
        Built.addCart(x, 9, 0, 0, 5);
        Built.addCart(x, 9, 0, 0, 0, 5);
        Built.addCart(x, 9, 6);
        int[] due = {3, 1, 2, 0};
        for (int place = 0; place < 4; place++) {
            Check.due("fullest(" + place + ")", x.fullest(place), due[place]);
        }
        Sentences.of(31, "`place`: the place, from 0");
        Check.due("0", x.fullest(0), 3);
        Check.due("-1", x.fullest(-1), NONE);
        Sentences.of(31, "Returns the cart; NONE if there is no such place.");
        Check.due("the last", x.fullest(3), 0);
        dueNoCart("fullest", place -> x.fullest(place), 4);
        dueNoCart("fullest without carts", place -> new CartArguments().fullest(place), 0);
        Check.due("of empty carts", Built.crowded().fullest(3), 3);
        CartArguments y = Built.cart(9);
        Check.due("of one", y.fullest(0), 0);
        Check.due("of one, the second", y.fullest(1), NONE);
    }

    private static void dueLine(CartArguments x, String call, int answer, String line) {
        Check.due(call, answer, line.length());
        Check.dueText(call, Check.line(x), line);
    }

    private static void write() {
        Sentences.nameNoEdge(32, "`cart`: the cart");
        Sentences.of(32, "Writes a line about a cart, in place of the one before: its number, \"[\", for each place from 0"
                + " to 5 the thing there, or \".\", with \",\" between two, \"]\", and \"^\" and its conclusion, if it has"
                + " one; as in \"0[2,.,.,5,.,.]^1\".");
        CartArguments x = Built.full(9);
        x.cart(9);
        dueLine(x, "full", x.write(0), "0[0,1,2,3,4,5]^6");
        dueLine(x, "empty, in its place", x.write(1), "1[.,.,.,.,.,.]");
        x.premise(1);
        x.premise(1);
        x.premise(1);
        x.premise(1);
        x.conclusion(1);
        x.load(10, 1, 5);
        x.load(9, 1, 0);
        x.load(11, 1, 6);
        dueLine(x, "numbers of two digits", x.write(1), "1[9,.,.,.,.,10]^11");
        x.unload(11);
        dueLine(x, "no conclusion any more", x.write(1), "1[9,.,.,.,.,10]");
        Sentences.of(32, "Returns the length of the line; NONE if there is no such cart.");
        Check.due("its length", x.write(0), 16);
        dueNoCart("write", cart -> x.write(cart), 2);
        Check.dueText("the line before stays", Check.line(x), "0[0,1,2,3,4,5]^6");
        CartArguments y = Built.crowded();
        dueLine(y, "cart 3", y.write(3), "3[.,.,.,.,.,.]");
        Check.due("cart 4", y.write(4), NONE);
    }

    private static void writeRoads() {
        Sentences.of(33, "Writes the roads as a line, in place of the one before: for each its limit, \"*\" and its miles,"
                + " \":\" and its rate, with a blank between two; as in \"30*5:2 9*1:0\".");
        CartArguments x = Built.cart(9);
        x.write(0);
        dueLine(x, "none", x.writeRoads(), "");
        x.road(30, 5, 2);
        dueLine(x, "one", x.writeRoads(), "30*5:2");
        x.road(9, 1, 0);
        dueLine(x, "two", x.writeRoads(), "30*5:2 9*1:0");
        x.write(0);
        Check.dueText("a cart in its place", Check.line(x), "0[.,.,.,.,.,.]");
        Sentences.of(33, "Returns the length of the line.");
        CartArguments y = new CartArguments();
        Check.due("of none", y.writeRoads(), 0);
        for (int road = 0; road < 5; road++) {
            y.road(99, 9, 9);
            Check.due("of " + (road + 1), y.writeRoads(), 7 * road + 6);
        }
        Check.dueText("five", Check.line(y), "99*9:9 99*9:9 99*9:9 99*9:9 99*9:9");
    }

    private static void written() {
        Sentences.of(34, "Returns the code of a character of the written line, which is empty at first.");
        CartArguments x = new CartArguments();
        Check.due("at first", x.written(0), NONE);
        x.cart(9);
        x.write(0);
        Check.due("a digit", x.written(0), 48);
        Check.due("a bracket", x.written(1), 91);
        Sentences.of(34, "`index`: its index, from 0");
        Check.due("0", x.written(0), '0');
        Check.due("-1", x.written(-1), NONE);
        Check.due("the last", x.written(13), ']');
        Sentences.of(34, "Returns the code; NONE if there is none.");
        Check.due("14", x.written(14), NONE);
        Check.due("15", x.written(15), NONE);
        x.writeRoads();
        Check.due("an empty line", x.written(0), NONE);
        x.write(0);
        for (int wild : Built.WILD) {
            Check.due("" + wild, x.written(wild), wild == 13 ? ']' : NONE);
        }
    }

    private static void isWell() {
        Sentences.of(35, "Returns whether the tenths of all axles, and the best balances, are alike by both ways, no"
                + " conclusion weighs more than the premises on its cart, and no thing is at two places.");
        Check.due("without carts", new CartArguments().isWell(), 1);
        Check.due("empty carts", Built.crowded().isWell(), 1);
        Check.due("a full cart", Built.full(1).isWell(), 1);
        CartArguments x = Built.cart(9, 5, 0, 0, 0, 0, 0, 5);
        Built.addCart(x, 1, 9, 8, 7, 6, 5, 4, 39);
        Sentences.of(35, "Returns 1 if it is so, 0 otherwise.");
        Check.due("two carts", x.isWell(), 1);
        x.swap(1, 0, 5);
        Check.due("after a swap", x.isWell(), 1);
        x.unload(1);
        x.unload(0);
        x.load(0, 0, 5);
        Check.due("after moving", x.isWell(), 1);
        x.undo();
        Check.due("after undo", x.isWell(), 1);
    }

    private static void shares() {
        Sentences.of(36, "Returns the mean weight of the things: the sum divided by their number, both converted to"
                + " double.");
        CartArguments x = new CartArguments();
        x.premise(1);
        Check.dueExactly("one", x.meanWeight(), 1.0);
        x.premise(2);
        Check.dueExactly("two", x.meanWeight(), 1.5);
        x.conclusion(2);
        Check.dueExactly("three", x.meanWeight(), 5.0 / 3.0);
        Check.dueExactly("twelve", Built.crowded().meanWeight(), 9.0);
        Check.dueExactly("loose ones and others", Built.rich().meanWeight(), 45.0 / 6.0);
        Sentences.of(36, "Returns the mean; 0.0 without things.");
        Check.dueExactly("without things", new CartArguments().meanWeight(), 0.0);
        Check.dueExactly("an empty cart", Built.cart(9).meanWeight(), 0.0);
        Sentences.of(37, "Returns the share of all axles that creak now, both numbers converted to float.");
        CartArguments y = Built.cart(1, 9);
        Check.dueExactly("one of two", y.creakShare(), 0.5f);
        y.cart(1);
        Check.dueExactly("one of four", y.creakShare(), 0.25f);
        y.cart(1);
        Check.dueExactly("one of six", y.creakShare(), 1.0f / 6.0f);
        y.cart(1);
        Check.dueExactly("one of eight", y.creakShare(), 0.125f);
        Check.dueExactly("all", Built.full(53).creakShare(), 1.0f);
        Check.dueExactly("none", Built.full(54).creakShare(), 0.0f);
        Sentences.of(37, "Returns the share; 0.0f without carts.");
        Check.dueExactly("without carts", new CartArguments().creakShare(), 0.0f);
        y.clear();
        Check.dueExactly("without carts again", y.creakShare(), 0.0f);
    }

    private static void dueAccounts(CartArguments x, String call, int... due) {
        for (int what = 0; what < due.length; what++) {
            Check.due(call + " account(" + what + ")", x.account(what), due[what]);
        }
    }

    private static void account() {
        Sentences.nameNoEdge(38, "Returns an account.");
        Sentences.of(38, "`what`: 0 the things; 1 the premises; 2 the conclusions; 3 the things on carts; 4 the carts; 5"
                + " the roads; 6 the weight on all carts; 7 the axles that creak; 8 the axles that are worn out; 9 the"
                + " trips so far; 10 the miles of all trips so far; 11 the characters of the input; 12 the changes that"
                + " can be undone");
        dueAccounts(new CartArguments(), "none", 0, 0, 0, 0, 0, 0, 0, 0, 0, 0, 0, 0, 0);
        dueAccounts(Built.crowded(), "crowded", 12, 6, 6, 0, 4, 5, 0, 0, 0, 0, 0, 0, 8);
        dueAccounts(Built.worn(), "worn", 2, 1, 1, 2, 1, 2, 18, 1, 1, 5, 45, 0, 8);
        CartArguments x = Built.rich();
        Check.type(x, "cart 9");
        dueAccounts(x, "rich", 6, 4, 2, 4, 2, 2, 30, 2, 0, 1, 5, 6, 8);
        x.trip(0, 0);
        dueAccounts(x, "a trip more", 6, 4, 2, 4, 2, 2, 30, 2, 0, 2, 10, 6, 8);
        CartArguments y = Built.cart(9);
        y.trip(0, 0);
        dueAccounts(y, "one change", 0, 0, 0, 0, 1, 0, 0, 0, 0, 0, 0, 0, 1);
        Sentences.of(38, "Returns the account; BAD if there is no such what.");
        Check.due("12", x.account(12), 8);
        dueBad(13, x.account(13));
        dueBad(14, x.account(14));
        for (int wild : Built.WILD) {
            dueBad(wild, x.account(wild));
        }
    }

    private static void dueBad(int what, int got) {
        Check.due("account(" + what + ")", got, BAD);
    }

    private static void undo() {
        Sentences.nameNoEdge(39, "Undoes the latest change.");
        Sentences.of(39, "Returns the number of changes that can still be undone; NOTHING if there is none.");
        CartArguments x = new CartArguments();
        Check.due("at first", x.undo(), NOTHING);
        x.premise(0);
        x.append('c');
        Check.due("no change was made", x.undo(), NOTHING);
        x.premise(5);
        Check.due("one", x.undo(), 0);
        Check.due("it is undone", x.account(0), 0);
        Check.due("none is left", x.undo(), NOTHING);
        CartArguments y = Built.crowded();
        for (int left = 7; left >= 0; left--) {
            Check.due("left", y.undo(), left);
            Check.due("roads left", y.account(5), left > 2 ? left - 3 : 0);
            Check.due("carts left", y.account(4), left > 2 ? 4 : left + 1);
        }
        Check.due("no more", y.undo(), NOTHING);
        Check.due("things stay", y.account(0), 12);
        y.cart(5);
        y.cart(6);
        Check.due("of new ones", y.undo(), 1);
        Check.due("the number is free again", y.cart(7), 2);
        Check.due("the strength is the new one", y.cartOf(2, 0), 7);
    }

    private static void save() {
        Sentences.of(40, "Saves all that changes can change, in place of what was saved before.");
        CartArguments x = Built.rich();
        CartArguments other = Built.rich();
        x.save();
        x.clear();
        other.save();
        x.restore();
        Check.dueText("all of it", Built.things(x), Built.things(other));
        x.clear();
        x.save();
        Built.addCart(x, 9, 9);
        x.restore();
        Check.dueText("nothing, in its place", Built.things(x), Built.things(new CartArguments()));
        Sentences.of(40, "Returns how many things there are.");
        Check.due("none", x.save(), 0);
        CartArguments y = Built.crowded();
        Check.due("twelve", y.save(), 12);
        Check.due("the changes can still be undone", y.undo(), 7);
        Check.due("twelve again", y.save(), 12);
        y.clear();
        Check.due("none again", y.save(), 0);
    }

    /** What was saved is full, and all of it has become another thing, cart or road. */
    private static void restoreOfOthers() {
        CartArguments x = Built.brimful();
        String saved = Built.things(x);
        x.save();
        x.clear();
        for (int number = 0; number < 12; number++) {
            Check.due("another thing", number % 3 == 2 ? x.premise(9) : x.conclusion(50), number);
        }
        for (int number = 0; number < 4; number++) {
            Check.due("another cart", x.cart(60 - number), number);
        }
        for (int number = 0; number < 5; number++) {
            Check.due("another road", x.road(99 - number, 1, 1), number);
        }
        x.load(11, 0, 0);
        x.load(2, 3, 4);
        Check.due("restore of others", x.restore(), 12);
        Check.dueText("others as saved", Built.things(x), saved);
    }

    private static void restore() {
        Sentences.of(41, "Restores what was saved, which stays saved.");
        CartArguments x = Built.worn();
        x.save();
        CartArguments other = Built.worn();
        String saved = Built.things(other);
        for (int round = 0; round < 3; round++) {
            x.grease(0);
            x.trip(0, 0);
            x.swap(0, 0, 3);
            x.unload(1);
            x.unload(0);
            x.premise(8);
            x.cart(3);
            x.road(3, 3, 3);
            if (round == 1) {
                x.clear();
            }
            Check.due("restore", x.restore(), 2);
            Check.dueText("as saved", Built.things(x), saved);
        }
        restoreOfOthers();
        Sentences.of(41, "Nothing can be undone then.");
        Check.due("no changes", x.account(12), 0);
        Check.due("undo", x.undo(), NOTHING);
        Check.dueText("as saved still", Built.things(x), saved);
        x.grease(0);
        Check.due("undo of one", x.undo(), 0);
        Check.dueText("as saved again", Built.things(x), saved);
        Sentences.of(41, "Returns how many things there are; NOTHING if nothing was saved.");
        CartArguments y = Built.full(9);
        Check.due("nothing was saved", y.restore(), NOTHING);
        Check.due("nothing is lost", y.account(0) + y.account(12), 15);
        y.save();
        y.premise(1);
        Check.due("seven", y.restore(), 7);
        CartArguments z = new CartArguments();
        z.save();
        z.premise(1);
        Check.due("none", z.restore(), 0);
        Check.due("none again", z.restore(), 0);
    }
}
