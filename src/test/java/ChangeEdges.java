/** The edges that promises 1 to 15 name: what is new, what changes, and what is told of refusals. */
final class ChangeEdges {
    private static final int NONE = CartArguments.NONE;
    private static final int BAD = CartArguments.BAD;
    private static final int REFUSED = CartArguments.REFUSED;
    private static final int NOTHING = CartArguments.NOTHING;

    private ChangeEdges() {
    }

    static void all() {
        nothingIsNew();
        clearKeeps();
        clearAnswers();
        append();
        premise();
        conclusion();
        cart();
        road();
        load();
        unload();
        swap();
        swapPlaces();
        trip();
        grease();
        readAllOrNone();
        readEmpties();
        readAnswers();
        fault();
        reason();
    }

    private static void dueReason(CartArguments x, String call, int got, int reason, int detail) {
        Check.due(call, got, REFUSED);
        Check.dueText(call + " reasons", Built.reasons(x), reason + " " + detail + " -4 -4");
    }

    private static void nothingIsNew() {
        Sentences.of(1, "Creates a weighbridge without things, carts and roads.");
        CartArguments x = new CartArguments();
        Check.dueText("all of it", Built.things(x), "0.0 0 0 0 0 0 0 0 0 0 0 0");
        Check.due("changes", x.account(12), 0);
        Check.dueText("what is kept", Built.kept(x), "0 -4 -4 -4 -4 -4 ");
        Check.due("no thing", x.thingOf(0, 0), NONE);
        Check.due("no cart", x.cartOf(0, 0), NONE);
        Check.due("no road", x.roadOf(0, 0), NONE);
        Check.due("nothing to undo", x.undo(), NOTHING);
        Check.due("nothing saved", x.restore(), NOTHING);
        Check.due("load", x.load(0, 0, 0), NONE);
        Check.due("trip", x.trip(0, 0), NONE);
        Check.due("grease", x.grease(0), NONE);
        x.premise(5);
        x.cart(5);
        CartArguments y = new CartArguments();
        Check.due("another object has nothing of it", y.account(0) + y.account(4), 0);
        y.save();
        Check.due("nor what the other has saved", x.restore(), NOTHING);
    }

    private static void clearKeeps() {
        Sentences.of(2, "Makes everything as in a new object, except the input, the fault position, the reasons, the"
                + " written line and what was saved.");
        CartArguments x = Built.rich();
        x.save();
        CartArguments other = Built.rich();
        other.save();
        other.restore();
        Check.type(x, "cart 5");
        String kept = Built.kept(x);
        x.clear();
        Check.dueText("as new", Built.things(x), Built.things(new CartArguments()));
        Check.dueText("kept", Built.kept(x), kept);
        Check.due("the input is kept", x.read(), 1);
        Check.dueText("a cart as new", "" + x.cartOf(0, 0) + x.cartOf(0, 5) + x.wear(0, false) + x.wear(0, true), "500.00.0");
        x.premise(3);
        Check.due("a premise as new", x.thingOf(0, 2), NOTHING);
        x.road(1, 1, 1);
        Check.due("a road as new", x.roadOf(0, 3), 0);
        Check.due("what was saved is kept", x.restore(), 6);
        Check.dueText("what was saved", Built.things(x), Built.things(other));
        CartArguments y = Built.rich();
        y.clear();
        Check.due("what was saved before", y.restore(), 3);
        CartArguments z = Built.cart(9, 5);
        z.clear();
        Check.due("nothing is saved by it", z.restore(), NOTHING);
        Sentences.of(2, "Nothing can be undone then.");
        CartArguments u = Built.full(9);
        Check.due("eight", u.account(12), 8);
        u.clear();
        Check.due("none", u.account(12), 0);
        Check.due("undo", u.undo(), NOTHING);
        Check.due("it stays clear", u.account(0), 0);
        u.premise(4);
        Check.due("one", u.account(12), 1);
        Check.due("undo of one", u.undo(), 0);
        Check.due("undo of no more", u.undo(), NOTHING);
        Check.due("clear again", u.account(0) + u.account(4), 0);
    }

    private static void clearAnswers() {
        Sentences.of(2, "Returns how many things there were.");
        CartArguments x = new CartArguments();
        Check.due("none", x.clear(), 0);
        x.cart(5);
        x.road(1, 1, 1);
        Check.due("a cart and a road are no things", x.clear(), 0);
        Check.due("twelve", Built.crowded().clear(), 12);
        CartArguments y = Built.full(9);
        Check.due("seven", y.clear(), 7);
        Check.due("none then", y.clear(), 0);
    }

    private static void append() {
        Sentences.nameNoEdge(3, "Appends a character to the input.", "`character`: the character");
        Sentences.of(3, "Returns the length of the input then; BAD if its code is out of range, or there are 60.");
        CartArguments x = new CartArguments();
        Check.due("31 at first", x.append((char) 31), BAD);
        Check.due("32 at first", x.append((char) 32), 1);
        for (int length = 2; length <= 59; length++) {
            Check.due("append", x.append((char) (length + 67)), length);
        }
        Check.due("127 as the 60th", x.append((char) 127), BAD);
        Check.due("0 as the 60th", x.append((char) 0), BAD);
        Check.due("256 + 97 as the 60th", x.append((char) (256 + 97)), BAD);
        Check.due("126 as the 60th", x.append((char) 126), 60);
        Check.due("126 as the 61st", x.append((char) 126), BAD);
        Check.due("127 as the 61st", x.append((char) 127), BAD);
        Check.due("length", x.account(11), 60);
        x.read();
        Check.due("the first after read", x.append('a'), 1);
    }

    private static void premise() {
        Sentences.nameNoEdge(4, "Adds a premise.", "`weight`: its weight");
        Sentences.of(4, "Returns the number of the thing; BAD if the weight is out of range; REFUSED for 1.");
        CartArguments x = new CartArguments();
        for (int number = 0; number < 12; number++) {
            Check.due("premise(0)", x.premise(0), BAD);
            Check.due("premise(10)", x.premise(10), BAD);
            Check.due("premise", x.premise(number % 2 == 0 ? 1 : 9), number);
        }
        Check.due("premise(0), full", x.premise(0), BAD);
        Check.due("no reason yet", x.reason(0, false), NOTHING);
        dueReason(x, "premise(1), full", x.premise(1), 1, 12);
        dueReason(x, "premise(9), full", x.premise(9), 1, 12);
        for (int wild : Built.WILD) {
            Check.due("premise(" + wild + ")", x.premise(wild), BAD);
        }
        Check.due("twelve", x.account(1), 12);
    }

    private static void conclusion() {
        Sentences.nameNoEdge(5, "Adds a conclusion.", "`weight`: its weight");
        Sentences.of(5, "Returns the number of the thing; BAD if the weight is out of range; REFUSED for 1.");
        CartArguments x = new CartArguments();
        for (int number = 0; number < 12; number++) {
            Check.due("conclusion(0)", x.conclusion(0), BAD);
            Check.due("conclusion(55)", x.conclusion(55), BAD);
            Check.due("conclusion", x.conclusion(number % 2 == 0 ? 1 : 54), number);
        }
        Check.due("conclusion(55), full", x.conclusion(55), BAD);
        Check.due("no reason yet", x.reason(0, false), NOTHING);
        dueReason(x, "conclusion(1), full", x.conclusion(1), 1, 12);
        dueReason(x, "conclusion(54), full", x.conclusion(54), 1, 12);
        int[] wild = {-1, -54, Integer.MIN_VALUE, Integer.MAX_VALUE, 256 + 1, 65536 + 1, 56, 64};
        for (int weight : wild) {
            Check.due("conclusion(" + weight + ")", x.conclusion(weight), BAD);
        }
        Check.due("twelve", x.account(2), 12);
    }

    private static void cart() {
        Sentences.nameNoEdge(6, "Adds a cart.", "`strength`: its strength");
        Sentences.of(6, "Returns its number; BAD if the strength is out of range; REFUSED for 1.");
        CartArguments x = new CartArguments();
        for (int number = 0; number < 4; number++) {
            Check.due("cart(0)", x.cart(0), BAD);
            Check.due("cart(61)", x.cart(61), BAD);
            Check.due("cart", x.cart(number % 2 == 0 ? 1 : 60), number);
        }
        Check.due("cart(61), full", x.cart(61), BAD);
        Check.due("no reason yet", x.reason(0, false), NOTHING);
        dueReason(x, "cart(1), full", x.cart(1), 1, 4);
        dueReason(x, "cart(60), full", x.cart(60), 1, 4);
        int[] wild = {-1, Integer.MIN_VALUE, Integer.MAX_VALUE, 256 + 1, 65536 + 1, 62, 64};
        for (int strength : wild) {
            Check.due("cart(" + strength + ")", x.cart(strength), BAD);
        }
        Check.due("four", x.account(4), 4);
    }

    private static void road() {
        Sentences.nameNoEdge(7, "Adds a road.", "`limit`: its limit", "`miles`: its miles", "`rate`: its rate");
        Sentences.of(7, "Returns its number; BAD if a number is out of range; REFUSED for 1.");
        CartArguments x = new CartArguments();
        int[][] bad = {
            {0, 5, 5}, {100, 5, 5}, {5, 0, 5}, {5, 10, 5}, {5, 5, -1}, {5, 5, 10}, {0, 0, -1}, {100, 10, 10},
            {Integer.MIN_VALUE, 5, 5}, {5, Integer.MIN_VALUE, 5}, {5, 5, Integer.MIN_VALUE},
            {Integer.MAX_VALUE, 5, 5}, {5, Integer.MAX_VALUE, 5}, {5, 5, Integer.MAX_VALUE}, {-1, 5, 5}, {5, -1, 5},
        };
        for (int number = 0; number < 5; number++) {
            for (int[] b : bad) {
                Check.due("road bad", x.road(b[0], b[1], b[2]), BAD);
            }
            Check.due("road", number % 2 == 0 ? x.road(1, 1, 0) : x.road(99, 9, 9), number);
        }
        for (int[] b : bad) {
            Check.due("road bad, full", x.road(b[0], b[1], b[2]), BAD);
        }
        Check.due("no reason yet", x.reason(0, false), NOTHING);
        dueReason(x, "road, full", x.road(1, 1, 0), 1, 5);
        dueReason(x, "road, full again", x.road(99, 9, 9), 1, 5);
        Check.due("five", x.account(5), 5);
    }

    private static void load() {
        Sentences.nameNoEdge(8, "Loads a thing on a cart.", "`thing`: the thing", "`cart`: the cart");
        Sentences.of(8, "`place`: the place, 6 for the top");
        CartArguments x = Built.cart(9, 9);
        x.conclusion(9);
        x.premise(9);
        Check.due("a conclusion on the top", x.load(1, 0, 6), 18);
        Check.due("at 6", x.at(0, 6), 1);
        dueReason(x, "a premise on the top", x.load(2, 0, 6), 3, 6);
        Check.due("a premise at 5", x.load(2, 0, 5), 27);
        Sentences.of(8, "Returns the weight of the cart then; NONE if there is no such thing or cart; BAD if there is no"
                + " such place; REFUSED for 2, 3, 4 or 5.");
        CartArguments y = Built.cart(9, 1);
        y.premise(9);
        y.conclusion(1);
        Check.due("thing 3", y.load(3, 0, 1), NONE);
        Check.due("cart 1", y.load(1, 1, 1), NONE);
        for (int wild : Built.WILD) {
            Check.due("thing " + wild, y.load(wild, 0, 1), NONE);
            Check.due("cart " + wild, y.load(1, wild, 1), NONE);
            Check.due("both " + wild, y.load(wild, wild, wild), NONE);
            Check.due("place " + wild, y.load(1, 0, wild), BAD);
        }
        Check.due("place 7", y.load(1, 0, 7), BAD);
        Check.due("place 7 of a conclusion", y.load(2, 0, 7), BAD);
        Check.due("place -1 of a conclusion", y.load(2, 0, -1), BAD);
        Check.due("no reason yet", y.reason(0, false), NOTHING);
        dueReason(y, "2", y.load(0, 0, 1), 2, 0);
        dueReason(y, "3", y.load(2, 0, 1), 3, 1);
        dueReason(y, "4", y.load(1, 0, 0), 4, 0);
        y.conclusion(2);
        dueReason(y, "5", y.load(3, 0, 6), 5, 1);
        Check.due("the weight then", y.load(1, 0, 1), 10);
        Check.due("the weight with a conclusion", y.load(2, 0, 6), 11);
        Check.due("the weight of another cart", weightOfAnother(), 3);
        CartArguments z = Built.cart(9, 9, 9, 9, 9, 9, 9);
        z.conclusion(54);
        Check.due("the greatest weight", z.load(6, 0, 6), 108);
    }

    private static int weightOfAnother() {
        CartArguments x = Built.full(9);
        x.cart(9);
        x.premise(3);
        return x.load(7, 1, 0);
    }

    private static void unload() {
        Sentences.nameNoEdge(9, "Unloads a thing from its cart.", "`thing`: the thing");
        Sentences.of(9, "Returns the cart; NONE if there is no such thing; REFUSED for 6 or 5.");
        CartArguments x = Built.cart(9, 5, 1, 0, 0, 0, 0, 5);
        Built.addCart(x, 9, 5);
        Check.due("thing 4", x.unload(4), NONE);
        for (int wild : Built.WILD) {
            Check.due("thing " + wild, x.unload(wild), NONE);
        }
        Check.due("no reason yet", x.reason(0, false), NOTHING);
        dueReason(x, "5", x.unload(0), 5, 4);
        Check.due("cart 1", x.unload(3), 1);
        dueReason(x, "6", x.unload(3), 6, 3);
        Check.due("just as heavy then", x.unload(1), 0);
        dueReason(x, "5 of the last one", x.unload(0), 5, 5);
        Check.due("the conclusion", x.unload(2), 0);
        Check.due("the last one", x.unload(0), 0);
        dueReason(x, "6 of the last one", x.unload(0), 6, 0);
        Check.due("nothing is left", x.account(3), 0);
    }

    private static void swap() {
        Sentences.nameNoEdge(10, "`cart`: the cart");
        Sentences.of(10, "Swaps the premises at two places of a cart, as far as there are some.");
        CartArguments x = Built.cart(9, 1, 2, 0, 0, 0, 0, 3);
        Built.addCart(x, 9, 3, 4);
        x.swap(0, 0, 1);
        Check.due("both", x.at(0, 0) * 10 + x.at(0, 1), 10);
        x.swap(0, 1, 5);
        Check.due("one, at 5", x.at(0, 5), 0);
        Check.due("one, at 1", x.at(0, 1), NOTHING);
        x.swap(0, 1, 5);
        Check.due("the other one, at 1", x.at(0, 1), 0);
        Check.due("the other one, at 5", x.at(0, 5), NOTHING);
        x.swap(0, 3, 4);
        Check.due("none", x.at(0, 3) + x.at(0, 4), 2 * NOTHING);
        Check.due("the other cart", x.at(1, 0) * 10 + x.at(1, 1), 34);
        Check.due("the top", x.at(0, 6), 2);
        Sentences.of(10, "Returns the imbalance then; NONE if there is no such cart; BAD if there is no such place;"
                + " REFUSED for 7.");
        CartArguments y = Built.cart(9, 9);
        Check.due("alike in front and behind", y.swap(0, 0, 5), 90);
        Check.due("less", y.swap(0, 5, 2), 18);
        Check.due("cart 1", y.swap(1, 0, 5), NONE);
        Check.due("place 6", y.swap(0, 0, 6), BAD);
        for (int wild : Built.WILD) {
            Check.due("cart " + wild, y.swap(wild, 0, 5), NONE);
            Check.due("cart " + wild + ", one place", y.swap(wild, wild, wild), NONE);
            Check.due("one " + wild, y.swap(0, wild, 5), BAD);
            Check.due("other " + wild, y.swap(0, 5, wild), BAD);
            Check.due("both " + wild, y.swap(0, wild, wild), BAD);
        }
        Check.due("no reason yet", y.reason(0, false), NOTHING);
        dueReason(y, "7", y.swap(0, 5, 5), 7, 5);
        dueReason(y, "7 at 0", y.swap(0, 0, 0), 7, 0);
    }

    private static void swapPlaces() {
        Sentences.of(10, "`one`: the one place, from 0 to 5");
        for (int place = -2; place <= 8; place++) {
            Check.due("one " + place, Built.cart(9, 0, 0, 0, 5).swap(0, place, 3), swapWithThree(place));
        }
        Sentences.of(10, "`other`: the other place, from 0 to 5");
        for (int place = -2; place <= 8; place++) {
            Check.due("other " + place, Built.cart(9, 0, 0, 0, 5).swap(0, 3, place), swapWithThree(place));
        }
    }

    private static int swapWithThree(int place) {
        if (place < 0 || place > 5) {
            return BAD;
        }
        return place == 3 ? REFUSED : Math.abs(50 - 20 * place);
    }

    private static void trip() {
        Sentences.nameNoEdge(11, "Lets a cart make a trip over a road.", "`cart`: the cart", "`road`: the road");
        Sentences.of(11, "Returns how many of its axles creak; NONE if there is no such cart or road; REFUSED for 8, 9 or"
                + " 10.");
        CartArguments both = Built.cart(13, 9, 0, 0, 0, 0, 9, 9);
        both.road(27, 1, 1);
        Check.due("both axles", both.trip(0, 0), 2);
        CartArguments quiet = Built.cart(14, 9, 0, 0, 0, 0, 9, 9);
        quiet.road(27, 1, 1);
        Check.due("no axle, just within the limit", quiet.trip(0, 0), 0);
        CartArguments one = Built.cart(6, 0, 7, 0, 0, 0, 0, 1);
        one.road(8, 9, 9);
        Check.due("one axle", one.trip(0, 0), 1);
        Check.due("road 1", one.trip(0, 1), NONE);
        Check.due("cart 1", one.trip(1, 0), NONE);
        for (int wild : Built.WILD) {
            Check.due("cart " + wild, one.trip(wild, 0), NONE);
            Check.due("road " + wild, one.trip(0, wild), NONE);
            Check.due("both " + wild, one.trip(wild, wild), NONE);
        }
        Check.due("no reason yet", one.reason(0, false), NOTHING);
        CartArguments x = Built.full(53);
        x.road(99, 9, 9);
        dueReason(x, "9", x.trip(0, 0), 9, 9);
        x.unload(6);
        dueReason(x, "8", x.trip(0, 0), 8, 6);
        CartArguments worn = Built.worn();
        dueReason(worn, "10", worn.trip(0, 0), 10, 0);
    }

    private static void grease() {
        Sentences.nameNoEdge(12, "`cart`: the cart");
        Sentences.of(12, "Greases the axles of a cart: their wear is 0.");
        CartArguments x = Built.worn();
        Built.addCart(x, 9, 5, 0, 0, 0, 0, 0, 5);
        x.trip(1, 0);
        float other = x.wear(1, true);
        x.grease(0);
        Check.dueExactly("in front", x.wear(0, false), 0.0f);
        Check.dueExactly("behind", x.wear(0, true), 0.0f);
        Check.dueExactly("the other cart", x.wear(1, true), other);
        Check.due("trips again", x.trip(0, 0), 1);
        Check.due("trips are kept", x.cartOf(0, 5), 6);
        Sentences.of(12, "Returns how many of them were worn out; NONE if there is no such cart; REFUSED for 11.");
        Check.due("none", x.grease(0), 0);
        dueReason(x, "11", x.grease(0), 11, 0);
        Check.due("one", Built.worn().grease(0), 1);
        CartArguments both = Built.cart(1, 0, 0, 9, 9, 0, 0, 18);
        both.road(99, 9, 9);
        while (both.trip(0, 0) >= 0) {
            Check.due("on and on", both.account(0), 3);
        }
        Check.due("both", both.grease(0), 2);
        Check.due("cart 1", both.grease(1), NONE);
        for (int wild : Built.WILD) {
            Check.due("cart " + wild, both.grease(wild), NONE);
        }
        Check.due("trips of both", both.trip(0, 0), 2);
        both.unload(2);
        both.unload(1);
        both.unload(0);
        Check.due("an empty cart with wear", both.grease(0), 0);
        dueReason(both, "an empty cart without wear", both.grease(0), 11, 0);
    }

    private static void readAllOrNone() {
        Sentences.of(13, "Carries out the commands of the input, one after the other, all of them or none.");
        CartArguments x = new CartArguments();
        Check.due("each builds on the one before", Check.say(x, "premise 9;cart 5;load 0 00;swap 0 01;unload 0"), 5);
        Check.due("all are carried out", x.account(0) + x.account(4) + x.account(3), 2);
        String before = Built.things(x);
        Check.due("none, for the last", Check.say(x, "load 0 00;conclusion 9;load 1 06;unload 0"), REFUSED);
        Check.dueText("none is carried out", Built.things(x), before);
        Check.due("none, for the first", Check.say(x, "unload 0;premise 1"), REFUSED);
        Check.dueText("none after the first", Built.things(x), before);
        Check.due("none, for one between", Check.say(x, "premise 1;cart 99;premise 1"), REFUSED);
        Check.dueText("none around it", Built.things(x), before);
        Check.due("none, for a fault", Check.say(x, "premise 1;cart 9;"), BAD);
        Check.dueText("none ahead of a fault", Built.things(x), before);
        Check.due("one change", x.account(12), 1);
        Check.due("undone as one", x.undo(), 0);
        Check.due("all of it", x.account(0) + x.account(4), 0);
        CartArguments y = Built.cart(9, 9, 9, 0, 0, 0, 0, 9);
        Check.due("what falls between is allowed", Check.say(y, "unload 2;unload 0;unload 1;load 0 00;load 2 06"), 5);
        Check.due("in this order alone", Check.say(y, "unload 0;unload 2"), REFUSED);
    }

    private static void readEmpties() {
        Sentences.of(13, "The input is empty then, whatever is returned.");
        String[] texts = {"cart 9", "cart 61", "cart 9;swap 0 11", "cart", "", "cart 9;"};
        int[] answers = {1, REFUSED, REFUSED, BAD, BAD, BAD};
        for (int index = 0; index < texts.length; index++) {
            CartArguments x = new CartArguments();
            Check.due(texts[index], Check.say(x, texts[index]), answers[index]);
            Check.due(texts[index] + ", input", x.account(11), 0);
            Check.due(texts[index] + ", read again", x.read(), BAD);
            Check.due(texts[index] + ", fault at once", x.fault(), 0);
            Check.due(texts[index] + ", append", x.append('x'), 1);
        }
    }

    private static void readAnswers() {
        Sentences.of(13, "Returns the number of commands; BAD, where the fault position is kept; REFUSED for 12 or 13.");
        String all = "cart 9;cart 8;cart 7;premise 1;premise 2;premise 3;premise 4";
        int count = 1;
        for (int end = 6; end < all.length(); end++) {
            if (all.charAt(end) == ';') {
                Check.due("commands", Check.say(new CartArguments(), all.substring(0, end)), count);
                count++;
            }
        }
        CartArguments x = new CartArguments();
        Check.due("seven of 60 signs", Check.say(x, all), 7);
        Check.due("no fault", x.fault(), NOTHING);
        Check.due("bad", Check.say(x, "cart 9;cat"), BAD);
        Check.due("its fault", x.fault(), 9);
        Check.due("bad leaves no reason", x.reason(0, false), NOTHING);
        Check.due("refused", Check.say(x, "swap 0 22"), REFUSED);
        Check.dueText("12", Built.reasons(x), "12 0 7 2");
        Check.due("refused again", Check.say(x, "swap 9 22"), REFUSED);
        Check.dueText("13", Built.reasons(x), "13 0 -4 -4");
        Check.due("the fault is kept", x.fault(), 9);
        Check.due("a fault ahead of a refusal", Check.say(x, "swap 0 22;x"), BAD);
        Check.dueText("the reasons are kept", Built.reasons(x), "13 0 -4 -4");
    }

    private static void fault() {
        Sentences.of(14, "Returns the fault position of the latest text that had a fault.");
        CartArguments x = new CartArguments();
        Check.say(x, "cart 9;x");
        Check.due("7", x.fault(), 7);
        Check.say(x, "cart 9;premise 1");
        Check.due("after a good text", x.fault(), 7);
        Check.say(x, "cart 99");
        Check.due("after a refused text", x.fault(), 7);
        Check.say(x, "ca");
        Check.due("after the next", x.fault(), 2);
        Check.say(x, "x");
        Check.due("at once", x.fault(), 0);
        x.read();
        Check.due("of no text", x.fault(), 0);
        Sentences.of(14, "Returns the position; NOTHING if none had one.");
        CartArguments y = new CartArguments();
        Check.due("at first", y.fault(), NOTHING);
        Check.say(y, "cart 9");
        Check.due("none in a good text", y.fault(), NOTHING);
        Check.say(y, "cart 0");
        Check.due("none in a refused text", y.fault(), NOTHING);
        Check.type(y, "x");
        Check.due("none before it is read", y.fault(), NOTHING);
        y.clear();
        y.read();
        Check.due("then", y.fault(), 0);
    }

    private static void reason() {
        Sentences.of(15, "Returns the reason for which something was refused last, the one that stands behind it, or a"
                + " detail.");
        CartArguments x = Built.cart(9);
        x.grease(0);
        Check.dueText("the first", Built.reasons(x), "11 0 -4 -4");
        Check.say(x, "swap 0 44");
        Check.dueText("a text", Built.reasons(x), "12 0 7 4");
        x.swap(0, 5, 5);
        Check.dueText("the latest", Built.reasons(x), "7 5 -4 -4");
        x.premise(3);
        x.premise(10);
        x.unload(9);
        x.undo();
        x.could(0, 0);
        Check.dueText("others leave it", Built.reasons(x), "7 5 -4 -4");
        Sentences.of(15, "`depth`: 0 for the reason, 1 for the one behind it");
        Check.say(x, "cart 9;grease 1");
        Check.due("0", x.reason(0, false), 12);
        Check.due("1", x.reason(1, false), 11);
        Sentences.of(15, "`isDetail`: true for the detail, false for the reason");
        Check.due("the detail of 0", x.reason(0, true), 1);
        Check.due("the detail of 1", x.reason(1, true), 1);
        Sentences.of(15, "Returns the number; BAD if depth is not from 0 to 1; NOTHING if nothing was refused, or there is"
                + " none behind it.");
        CartArguments y = Built.cart(9);
        Check.dueText("nothing was refused", Built.reasons(y), "-4 -4 -4 -4");
        for (int round = 0; round < 2; round++) {
            Check.due("depth 2", y.reason(2, round == 0), BAD);
            for (int wild : Built.WILD) {
                Check.due("depth " + wild, y.reason(wild, round == 0), BAD);
            }
            y.unload(0);
            y.premise(2);
            y.unload(0);
            Check.due("none behind", y.reason(1, round == 0), NOTHING);
            Check.due("there is one", y.reason(0, round == 0), round == 0 ? 0 : 6);
        }
    }
}
