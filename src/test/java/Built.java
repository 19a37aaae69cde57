/** Objects that tests begin with, and a look at all that an object answers. */
final class Built {
    /** No thing, cart, road, place or what has such a number, and some wrap around when they are doubled. */
    static final int[] WILD = {
        -1, -2, -3, -4, -5, -64, Integer.MIN_VALUE, Integer.MIN_VALUE + 1, Integer.MIN_VALUE + 2, Integer.MAX_VALUE,
        Integer.MAX_VALUE - 1, 1 << 30, (1 << 30) + 1, 1 << 29, 1 << 28, 1 << 16, 256, 128, 64, 63, 32, 31, 13,
    };

    private Built() {
    }

    /** Cart 0 with premises of these weights on the places 0 to 5, 0 for none, and a conclusion as the seventh. */
    static CartArguments cart(int strength, int... weights) {
        CartArguments x = new CartArguments();
        addCart(x, strength, weights);
        return x;
    }

    /** The things are numbered by their places, the conclusion is the last one. */
    static int addCart(CartArguments x, int strength, int... weights) {
        int cart = x.cart(strength);
        for (int place = 0; place < weights.length; place++) {
            if (weights[place] != 0) {
                int thing = place == 6 ? x.conclusion(weights[place]) : x.premise(weights[place]);
                Check.due("built", x.load(thing, cart, place) > 0 ? 1 : 0, 1);
            }
        }
        return cart;
    }

    /** As heavy as a cart can be. */
    static CartArguments full(int strength) {
        return cart(strength, 9, 9, 9, 9, 9, 9, 54);
    }

    /** 12 things, 4 carts and 5 roads. */
    static CartArguments crowded() {
        CartArguments x = new CartArguments();
        for (int number = 0; number < 12; number++) {
            Check.due("built", number % 2 == 0 ? x.premise(9) : x.conclusion(9), number);
        }
        for (int number = 0; number < 4; number++) {
            Check.due("built", x.cart(9), number);
        }
        for (int number = 0; number < 5; number++) {
            Check.due("built", x.road(9, 9, 9), number);
        }
        return x;
    }

    /** Crowded, with all things on carts, and trips of each cart and over each road. */
    static CartArguments brimful() {
        CartArguments x = new CartArguments();
        for (int cart = 0; cart < 4; cart++) {
            addCart(x, 3 + cart, 0, cart + 1, 0, 0, 0, 8 - cart, 2 * cart + 1);
        }
        for (int road = 0; road < 5; road++) {
            Check.due("built", x.road(20 + road, 9 - road, 2 * road), road);
        }
        for (int trips = 0; trips < 10; trips++) {
            Check.due("built", x.trip(trips % 4, trips % 5) >= 0 ? 1 : 0, 1);
        }
        return x;
    }

    /** Cart 0 made a trip; cart 1 has a premise alone; things 4 and 5 are loose; something is saved. */
    static CartArguments rich() {
        CartArguments x = cart(6, 4, 0, 0, 0, 0, 9, 10);
        x.road(30, 5, 2);
        x.road(22, 1, 0);
        x.save();
        addCart(x, 60, 0, 0, 7);
        x.conclusion(12);
        x.premise(3);
        x.trip(0, 0);
        x.swap(0, 0, 1);
        x.swap(1, 0, 1);
        x.write(0);
        Check.say(x, "cart x");
        x.swap(0, 1, 1);
        return x;
    }

    /** The front axle of cart 0 is worn out. */
    static CartArguments worn() {
        CartArguments x = cart(10, 9, 0, 0, 0, 0, 0, 9);
        x.road(18, 9, 3);
        x.road(17, 9, 3);
        for (int trips = 0; trips < 5; trips++) {
            Check.due("built", x.trip(0, 0), 1);
        }
        return x;
    }

    static String things(CartArguments x) {
        StringBuilder all = new StringBuilder();
        numbers(all, x.account(0), 4, (thing, what) -> x.thingOf(thing, what));
        numbers(all, x.account(4), 8, (cart, what) -> x.cartOf(cart, what));
        numbers(all, x.account(5), 4, (road, what) -> x.roadOf(road, what));
        for (int cart = 0; cart < x.account(4); cart++) {
            all.append(x.wear(cart, false)).append(' ').append(x.wear(cart, true)).append(' ');
        }
        all.append(x.tolls());
        for (int what = 0; what <= 10; what++) {
            all.append(' ').append(x.account(what));
        }
        return all.toString();
    }

    private interface Numbers {
        int of(int number, int what);
    }

    private static void numbers(StringBuilder all, int count, int whats, Numbers numbers) {
        for (int number = 0; number < count; number++) {
            for (int what = 0; what < whats; what++) {
                all.append(numbers.of(number, what)).append(' ');
            }
            all.append("/ ");
        }
    }

    /** What is neither undone nor saved; what the input has is told by its length. */
    static String kept(CartArguments x) {
        return x.account(11) + " " + x.fault() + " " + reasons(x) + " " + Check.line(x);
    }

    static String reasons(CartArguments x) {
        return x.reason(0, false) + " " + x.reason(0, true) + " " + x.reason(1, false) + " " + x.reason(1, true);
    }

    /** Whether two objects are alike now, with each change undone, and with what was saved. */
    static void dueAlike(String call, CartArguments x, CartArguments y) {
        Check.dueText(call + ", things", things(x), things(y));
        Check.due(call + ", changes", x.account(12), y.account(12));
        for (int step = 0; step < 9; step++) {
            Check.due(call + ", undo", x.undo(), y.undo());
            Check.due(call + ", undone weight", x.account(6), y.account(6));
            Check.due(call + ", undone imbalance", x.cartOf(0, 6), y.cartOf(0, 6));
        }
        Check.dueText(call + ", things undone", things(x), things(y));
        Check.due(call + ", restore", x.restore(), y.restore());
        Check.dueText(call + ", things restored", things(x), things(y));
    }
}
